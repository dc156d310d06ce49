/-! WHAT NO INSTRUCTION ALTERS: the script's cell, the reference's object: printed by wip/whole/gen/gen83.py -/
def Kp (h h' : aH) : Prop := aCo h' 0 = aCo h 0 ∧ 3 ≤ aSz h' ∧ (isO h 39 10 = true → isO h' 39 10 = true)
def kp (f : aS) : Prop := ∀ (ls st : List aV) (h : aH) (n : Nat) (ls' st' : List aV) (h' : aH), f ls st h = some (n, ls', st', h') → 3 ≤ aSz h → Kp h h'
theorem Kp.rf {h : aH} (h3 : 3 ≤ aSz h) : Kp h h := ⟨rfl, h3, id⟩
theorem Kp.trans {h h1 h2 : aH} (e1 : Kp h h1) (e2 : Kp h1 h2) : Kp h h2 := ⟨e2.1.trans e1.1, e2.2.1, fun q => e2.2.2 (e1.2.2 q)⟩
theorem Kp.pf {h : aH} {a k : Nat} {v : aV} (ha : 3 ≤ a) (h3 : 3 ≤ aSz h) : Kp h (pf h a k v) := ⟨by rw [aCo_pf, if_neg (by omega)], h3, fun q => by rw [isO_pf]; exact q⟩
theorem Kp.sa {h : aH} {a : Nat} {f : Int → Int} (ha : 3 ≤ a) (h3 : 3 ≤ aSz h) : Kp h (sa h a f) := ⟨by rw [aCo_sa, if_neg (by omega)], h3, fun q => by rw [isO_sa]; exact q⟩
theorem Kp.sr {h : aH} {a : Nat} {f : Int → Option Nat} (ha : 3 ≤ a) (h3 : 3 ≤ aSz h) : Kp h (sr h a f) := ⟨by rw [aCo_sr, if_neg (by omega)], h3, fun q => by rw [isO_sr]; exact q⟩
theorem Kp.new {h : aH} {c : aC} {n : Nat} (h3 : 3 ≤ aSz h) : Kp h (aNew h c n) := ⟨by rw [aCo_new, if_neg (by omega)], by rw [aSz_new]; omega, fun q => by rw [isO_new (isO_lt q)]; exact q⟩
theorem inR_3 {h : aH} {a k : Nat} {i : Int} (c : inR h a k i = true) : 3 ≤ a := by
  unfold inR at c
  rw [Bool.and_eq_true] at c
  obtain ⟨n, f, -, e, -⟩ := isR_of c.1
  exact e
theorem okC_3 {h : aH} {s d : Nat} {i j n : Int} (c : okC h s d i j n = true) : 3 ≤ d := by
  unfold okC at c
  rw [Bool.and_eq_true, Bool.and_eq_true, decide_eq_true_eq] at c
  exact c.2.2.2.1
theorem isO_3 {h : aH} {a c : Nat} (e : isO h a c = true) : 3 ≤ a := by obtain ⟨fs, -, e2, -⟩ := isO_of e; exact e2
theorem kp_push {v : aV} {n : Nat} : kp (s_push v n) := by
  intro ls st h n' ls' st' h' hf h3
  unfold s_push at hf
  try (repeat' split at hf)
  all_goals first | (cases hf; exact Kp.rf h3) | (cases hf)
theorem kp_ild {k n : Nat} : kp (s_ild k n) := by
  intro ls st h n' ls' st' h' hf h3
  unfold s_ild at hf
  try (repeat' split at hf)
  all_goals first | (cases hf; exact Kp.rf h3) | (cases hf)
theorem kp_ald {k n : Nat} : kp (s_ald k n) := by
  intro ls st h n' ls' st' h' hf h3
  unfold s_ald at hf
  try (repeat' split at hf)
  all_goals first | (cases hf; exact Kp.rf h3) | (cases hf)
theorem kp_lld {k n : Nat} : kp (s_lld k n) := by
  intro ls st h n' ls' st' h' hf h3
  unfold s_lld at hf
  try (repeat' split at hf)
  all_goals first | (cases hf; exact Kp.rf h3) | (cases hf)
theorem kp_ist {k n : Nat} : kp (s_ist k n) := by
  intro ls st h n' ls' st' h' hf h3
  unfold s_ist at hf
  try (repeat' split at hf)
  all_goals first | (cases hf; exact Kp.rf h3) | (cases hf)
theorem kp_ast {k n : Nat} : kp (s_ast k n) := by
  intro ls st h n' ls' st' h' hf h3
  unfold s_ast at hf
  try (repeat' split at hf)
  all_goals first | (cases hf; exact Kp.rf h3) | (cases hf)
theorem kp_inc {k n : Nat} {c : Int} : kp (s_inc k c n) := by
  intro ls st h n' ls' st' h' hf h3
  unfold s_inc at hf
  try (repeat' split at hf)
  all_goals first | (cases hf; exact Kp.rf h3) | (cases hf)
theorem kp_bin {f : Int → Int → Int} {n : Nat} : kp (s_bin f n) := by
  intro ls st h n' ls' st' h' hf h3
  unfold s_bin at hf
  try (repeat' split at hf)
  all_goals first | (cases hf; exact Kp.rf h3) | (cases hf)
theorem kp_div {n : Nat} : kp (s_div n) := by
  intro ls st h n' ls' st' h' hf h3
  unfold s_div at hf
  try (repeat' split at hf)
  all_goals first | (cases hf; exact Kp.rf h3) | (cases hf)
theorem kp_rem {n : Nat} : kp (s_rem n) := by
  intro ls st h n' ls' st' h' hf h3
  unfold s_rem at hf
  try (repeat' split at hf)
  all_goals first | (cases hf; exact Kp.rf h3) | (cases hf)
theorem kp_neg {n : Nat} : kp (s_neg n) := by
  intro ls st h n' ls' st' h' hf h3
  unfold s_neg at hf
  try (repeat' split at hf)
  all_goals first | (cases hf; exact Kp.rf h3) | (cases hf)
theorem kp_i2l {n : Nat} : kp (s_i2l n) := by
  intro ls st h n' ls' st' h' hf h3
  unfold s_i2l at hf
  try (repeat' split at hf)
  all_goals first | (cases hf; exact Kp.rf h3) | (cases hf)
theorem kp_i2b {n : Nat} : kp (s_i2b n) := by
  intro ls st h n' ls' st' h' hf h3
  unfold s_i2b at hf
  try (repeat' split at hf)
  all_goals first | (cases hf; exact Kp.rf h3) | (cases hf)
theorem kp_lcmp {n : Nat} : kp (s_lcmp n) := by
  intro ls st h n' ls' st' h' hf h3
  unfold s_lcmp at hf
  try (repeat' split at hf)
  all_goals first | (cases hf; exact Kp.rf h3) | (cases hf)
theorem kp_dup {n : Nat} : kp (s_dup n) := by
  intro ls st h n' ls' st' h' hf h3
  unfold s_dup at hf
  try (repeat' split at hf)
  all_goals first | (cases hf; exact Kp.rf h3) | (cases hf)
theorem kp_dup2 {n : Nat} : kp (s_dup2 n) := by
  intro ls st h n' ls' st' h' hf h3
  unfold s_dup2 at hf
  try (repeat' split at hf)
  all_goals first | (cases hf; exact Kp.rf h3) | (cases hf)
theorem kp_go {n : Nat} : kp (s_go n) := by
  intro ls st h n' ls' st' h' hf h3
  unfold s_go at hf
  try (repeat' split at hf)
  all_goals first | (cases hf; exact Kp.rf h3) | (cases hf)
theorem kp_if {c : Int → Bool} {t n : Nat} : kp (s_if c t n) := by
  intro ls st h n' ls' st' h' hf h3
  unfold s_if at hf
  try (repeat' split at hf)
  all_goals first | (cases hf; exact Kp.rf h3) | (cases hf)
theorem kp_ic {c : Int → Int → Bool} {t n : Nat} : kp (s_ic c t n) := by
  intro ls st h n' ls' st' h' hf h3
  unfold s_ic at hf
  try (repeat' split at hf)
  all_goals first | (cases hf; exact Kp.rf h3) | (cases hf)
theorem kp_nul {t n : Nat} : kp (s_nul t n) := by
  intro ls st h n' ls' st' h' hf h3
  unfold s_nul at hf
  try (repeat' split at hf)
  all_goals first | (cases hf; exact Kp.rf h3) | (cases hf)
theorem kp_sw {ps : List (Int × Nat)} {n : Nat} : kp (s_sw ps n) := by
  intro ls st h n' ls' st' h' hf h3
  unfold s_sw at hf
  try (repeat' split at hf)
  all_goals first | (cases hf; exact Kp.rf h3) | (cases hf)
theorem kp_new {c n : Nat} : kp (s_new c n) := by
  intro ls st h n' ls' st' h' hf h3
  unfold s_new at hf
  try (repeat' split at hf)
  all_goals first | (cases hf; exact Kp.new h3) | (cases hf)
theorem kp_nai {n : Nat} : kp (s_nai n) := by
  intro ls st h n' ls' st' h' hf h3
  unfold s_nai at hf
  try (repeat' split at hf)
  all_goals first | (cases hf; exact Kp.new h3) | (cases hf)
theorem kp_nar {k n : Nat} : kp (s_nar k n) := by
  intro ls st h n' ls' st' h' hf h3
  unfold s_nar at hf
  try (repeat' split at hf)
  all_goals first | (cases hf; exact Kp.new h3) | (cases hf)
theorem kp_len {n : Nat} : kp (s_len n) := by
  intro ls st h n' ls' st' h' hf h3
  unfold s_len at hf
  try (repeat' split at hf)
  all_goals first | (cases hf; exact Kp.rf h3) | (cases hf)
theorem kp_ia {n : Nat} : kp (s_ia n) := by
  intro ls st h n' ls' st' h' hf h3
  unfold s_ia at hf
  try (repeat' split at hf)
  all_goals first | (cases hf; exact Kp.rf h3) | (cases hf)
theorem kp_ias {n : Nat} : kp (s_ias n) := by
  intro ls st h n' ls' st' h' hf h3
  unfold s_ias at hf
  try (repeat' split at hf)
  all_goals first | (rename_i c; cases hf; exact Kp.sa c.2 h3) | (cases hf)
theorem kp_ra {k n : Nat} : kp (s_ra k n) := by
  intro ls st h n' ls' st' h' hf h3
  unfold s_ra at hf
  try (repeat' split at hf)
  all_goals first | (cases hf; exact Kp.rf h3) | (cases hf)
theorem kp_ras {k n : Nat} : kp (s_ras k n) := by
  intro ls st h n' ls' st' h' hf h3
  unfold s_ras at hf
  try (repeat' split at hf)
  all_goals first | (rename_i c; cases hf; exact Kp.sr (inR_3 c.1) h3) | (cases hf)
theorem kp_gf {c k n : Nat} : kp (s_gf c k n) := by
  intro ls st h n' ls' st' h' hf h3
  unfold s_gf at hf
  try (repeat' split at hf)
  all_goals first | (cases hf; exact Kp.rf h3) | (cases hf)
theorem kp_pf {c k n : Nat} : kp (s_pf c k n) := by
  intro ls st h n' ls' st' h' hf h3
  unfold s_pf at hf
  try (repeat' split at hf)
  all_goals first | (rename_i c; cases hf; exact Kp.pf (isO_3 c.1) h3) | (cases hf)
theorem kp_gs {a n : Nat} : kp (s_gs a n) := by
  intro ls st h n' ls' st' h' hf h3
  unfold s_gs at hf
  try (repeat' split at hf)
  all_goals first | (cases hf; exact Kp.rf h3) | (cases hf)
theorem kp_oi {n : Nat} : kp (s_oi n) := by
  intro ls st h n' ls' st' h' hf h3
  unfold s_oi at hf
  try (repeat' split at hf)
  all_goals first | (cases hf; exact Kp.rf h3) | (cases hf)
theorem kp_cpy {n : Nat} : kp (s_cpy n) := by
  intro ls st h n' ls' st' h' hf h3
  unfold s_cpy at hf
  try (repeat' split at hf)
  all_goals first | (rename_i c; cases hf; exact Kp.sa (okC_3 c.1) h3) | (cases hf)
def KI (_ : Nat) (i : aIn) : Prop := match i with
  | .inl f => kp f
  | _ => True
theorem kI {n : Nat} {f : aS} (h : kp f) : KI n (.inl f) := h
theorem kC {n : Nat} {x : (Nat × Nat × Nat × Nat) ⊕ Nat} : KI n (.inr x) := trivial
theorem fa {P : Nat → aIn → Prop} {q : Nat × aIn} {L : List (Nat × aIn)} (h1 : P q.1 q.2) (h2 : ∀ q ∈ L, P q.1 q.2) : ∀ r ∈ q :: L, P r.1 r.2 := List.forall_mem_cons.mpr ⟨h1, h2⟩
theorem f0 {P : Nat → aIn → Prop} : ∀ r ∈ ([] : List (Nat × aIn)), P r.1 r.2 := fun _ h => absurd h List.not_mem_nil
set_option maxRecDepth 100000 in
set_option maxHeartbeats 4000000 in
theorem kp_A_init : ∀ (pc : Nat) (i : aIn), k_A_init pc = some i → KI pc i := lkl_ok (P := KI) (fa (kI kp_ald) (fa (kI kp_oi) (fa (kI kp_ald) (fa (kI kp_push) (fa (kI kp_nai) (fa (kI kp_pf) (fa kC f0)))))))
set_option maxRecDepth 100000 in
set_option maxHeartbeats 4000000 in
theorem kp_A_perform : ∀ (pc : Nat) (i : aIn), k_A_perform pc = some i → KI pc i := lkl_ok (P := KI) (fa (kI kp_ald) (fa (kI kp_push) (fa (kI kp_pf) (fa (kI kp_ald) (fa (kI kp_ald) (fa (kI kp_ald) (fa (kI kp_gf) (fa (kI kp_ild) (fa (kI kp_ild) (fa (kI kp_push) (fa kC (fa kC f0))))))))))))
set_option maxRecDepth 100000 in
set_option maxHeartbeats 4000000 in
theorem kp_A_run_0 : ∀ (pc : Nat) (i : aIn), k_A_run_0 pc = some i → KI pc i := lkl_ok (P := KI) (fa (kI kp_ild) (fa (kI kp_ild) (fa kC (fa (kI kp_ist) (fa (kI kp_ild) (fa (kI kp_push) (fa (kI kp_ic) (fa (kI kp_ild) (fa (kI kp_push) (fa (kI kp_ic) (fa (kI kp_push) (fa kC (fa (kI kp_gs) (fa (kI kp_ild) (fa (kI kp_ia) (fa (kI kp_ist) (fa (kI kp_gs) (fa (kI kp_ild) (fa (kI kp_push) (fa (kI kp_bin) (fa (kI kp_ild) (fa (kI kp_bin) (fa (kI kp_ia) (fa (kI kp_ist) (fa (kI kp_ild) (fa (kI kp_push) (fa (kI kp_bin) (fa (kI kp_ist) (fa (kI kp_ald) (fa (kI kp_ild) (fa kC (fa (kI kp_ild) (fa (kI kp_sw) (fa (kI kp_ild) (fa (kI kp_ald) (fa (kI kp_gf) (fa (kI kp_bin) (fa kC (fa (kI kp_ald) (fa (kI kp_ald) (fa (kI kp_ald) (fa (kI kp_gf) (fa (kI kp_push) (fa (kI kp_ild) (fa (kI kp_ild) (fa kC (fa (kI kp_push) (fa (kI kp_bin) (fa kC (fa (kI kp_ild) f0))))))))))))))))))))))))))))))))))))))))))))))))))
set_option maxRecDepth 100000 in
set_option maxHeartbeats 4000000 in
theorem kp_A_run_1 : ∀ (pc : Nat) (i : aIn), k_A_run_1 pc = some i → KI pc i := lkl_ok (P := KI) (fa (kI kp_ald) (fa (kI kp_gf) (fa (kI kp_bin) (fa kC (fa (kI kp_ald) (fa (kI kp_ald) (fa (kI kp_ald) (fa (kI kp_gf) (fa (kI kp_push) (fa (kI kp_ild) (fa (kI kp_ild) (fa kC (fa (kI kp_ald) (fa (kI kp_ald) (fa (kI kp_ald) (fa (kI kp_gf) (fa (kI kp_push) (fa (kI kp_ild) (fa (kI kp_ild) (fa kC (fa (kI kp_bin) (fa kC (fa (kI kp_ald) (fa (kI kp_ald) (fa (kI kp_ild) (fa (kI kp_push) (fa (kI kp_ild) (fa (kI kp_ild) (fa kC (fa (kI kp_ald) (fa (kI kp_gf) (fa (kI kp_bin) (fa kC (fa (kI kp_ald) (fa (kI kp_ald) (fa (kI kp_ild) (fa (kI kp_push) (fa (kI kp_ild) (fa (kI kp_push) (fa (kI kp_bin) (fa (kI kp_ild) (fa kC (fa kC (fa (kI kp_ald) (fa (kI kp_ald) (fa (kI kp_ild) (fa (kI kp_push) (fa (kI kp_ild) (fa (kI kp_ild) (fa kC f0))))))))))))))))))))))))))))))))))))))))))))))))))
set_option maxRecDepth 100000 in
set_option maxHeartbeats 4000000 in
theorem kp_A_run_2 : ∀ (pc : Nat) (i : aIn), k_A_run_2 pc = some i → KI pc i := lkl_ok (P := KI) (fa (kI kp_push) (fa (kI kp_bin) (fa kC (fa (kI kp_ald) (fa (kI kp_ald) (fa (kI kp_ild) (fa (kI kp_push) (fa (kI kp_ild) (fa (kI kp_ild) (fa kC (fa (kI kp_ald) (fa (kI kp_ald) (fa (kI kp_ald) (fa (kI kp_gf) (fa (kI kp_push) (fa (kI kp_ild) (fa (kI kp_ild) (fa kC (fa (kI kp_bin) (fa kC (fa (kI kp_ald) (fa (kI kp_ald) (fa (kI kp_ald) (fa (kI kp_gf) (fa (kI kp_push) (fa (kI kp_ild) (fa (kI kp_ild) (fa kC (fa (kI kp_ald) (fa (kI kp_ald) (fa (kI kp_ild) (fa (kI kp_push) (fa (kI kp_ild) (fa (kI kp_ild) (fa kC (fa (kI kp_bin) (fa kC (fa (kI kp_ald) (fa (kI kp_ald) (fa (kI kp_ild) (fa (kI kp_push) (fa (kI kp_ild) (fa (kI kp_ild) (fa kC (fa (kI kp_ald) (fa (kI kp_gf) (fa (kI kp_bin) (fa kC (fa (kI kp_ald) (fa (kI kp_ald) f0))))))))))))))))))))))))))))))))))))))))))))))))))
set_option maxRecDepth 100000 in
set_option maxHeartbeats 4000000 in
theorem kp_A_run_3 : ∀ (pc : Nat) (i : aIn), k_A_run_3 pc = some i → KI pc i := lkl_ok (P := KI) (fa (kI kp_ild) (fa (kI kp_push) (fa (kI kp_ild) (fa (kI kp_ald) (fa (kI kp_gf) (fa (kI kp_bin) (fa (kI kp_ild) (fa kC (fa kC (fa (kI kp_push) (fa kC f0)))))))))))
theorem kp_A_run : ∀ (pc : Nat) (i : aIn), k_A_run pc = some i → KI pc i := (lkb_ok (lkb_ok kp_A_run_3 kp_A_run_2) (lkb_ok kp_A_run_1 kp_A_run_0))
set_option maxRecDepth 100000 in
set_option maxHeartbeats 4000000 in
theorem kp_A_kindWithBody : ∀ (pc : Nat) (i : aIn), k_A_kindWithBody pc = some i → KI pc i := lkl_ok (P := KI) (fa (kI kp_ild) (fa (kI kp_ist) (fa (kI kp_push) (fa (kI kp_ist) (fa (kI kp_ild) (fa (kI kp_push) (fa (kI kp_ic) (fa (kI kp_ild) (fa (kI kp_if) (fa (kI kp_ild) (fa (kI kp_push) (fa (kI kp_ic) (fa (kI kp_gs) (fa (kI kp_ild) (fa (kI kp_push) (fa (kI kp_bin) (fa (kI kp_ild) (fa (kI kp_bin) (fa (kI kp_ia) (fa (kI kp_if) (fa (kI kp_ild) (fa kC (fa (kI kp_gs) (fa (kI kp_ild) (fa (kI kp_ia) (fa (kI kp_ist) (fa (kI kp_inc) (fa (kI kp_go) (fa (kI kp_push) (fa kC f0))))))))))))))))))))))))))))))
set_option maxRecDepth 100000 in
set_option maxHeartbeats 4000000 in
theorem kp_A_begin : ∀ (pc : Nat) (i : aIn), k_A_begin pc = some i → KI pc i := lkl_ok (P := KI) (fa (kI kp_ald) (fa (kI kp_gf) (fa (kI kp_push) (fa (kI kp_ic) (fa (kI kp_ald) (fa (kI kp_gf) (fa (kI kp_ald) (fa (kI kp_gf) (fa (kI kp_ild) (fa (kI kp_ias) (fa (kI kp_ald) (fa (kI kp_dup) (fa (kI kp_gf) (fa (kI kp_push) (fa (kI kp_bin) (fa (kI kp_pf) (fa kC f0)))))))))))))))))
set_option maxRecDepth 100000 in
set_option maxHeartbeats 4000000 in
theorem kp_Ch_init : ∀ (pc : Nat) (i : aIn), k_Ch_init pc = some i → KI pc i := lkl_ok (P := KI) (fa (kI kp_ald) (fa (kI kp_oi) (fa (kI kp_ald) (fa (kI kp_ald) (fa (kI kp_gf) (fa (kI kp_pf) (fa (kI kp_ald) (fa (kI kp_ild) (fa (kI kp_pf) (fa (kI kp_ald) (fa (kI kp_ild) (fa (kI kp_pf) (fa (kI kp_ald) (fa (kI kp_ild) (fa (kI kp_pf) (fa (kI kp_ald) (fa (kI kp_ild) (fa (kI kp_pf) (fa (kI kp_ald) (fa (kI kp_ald) (fa (kI kp_gf) (fa (kI kp_pf) (fa (kI kp_ald) (fa (kI kp_ald) (fa (kI kp_gf) (fa (kI kp_ild) (fa (kI kp_ra) (fa (kI kp_pf) (fa kC f0)))))))))))))))))))))))))))))
set_option maxRecDepth 100000 in
set_option maxHeartbeats 4000000 in
theorem kp_Ch_firstMarks : ∀ (pc : Nat) (i : aIn), k_Ch_firstMarks pc = some i → KI pc i := lkl_ok (P := KI) (fa (kI kp_ald) (fa (kI kp_gf) (fa (kI kp_push) (fa (kI kp_ic) (fa (kI kp_push) (fa (kI kp_nai) (fa (kI kp_dup) (fa (kI kp_push) (fa (kI kp_ald) (fa (kI kp_gf) (fa (kI kp_ias) (fa (kI kp_dup) (fa (kI kp_push) (fa (kI kp_ald) (fa (kI kp_gf) (fa (kI kp_ias) (fa (kI kp_dup) (fa (kI kp_push) (fa (kI kp_push) (fa (kI kp_ias) (fa (kI kp_dup) (fa (kI kp_push) (fa (kI kp_ald) (fa (kI kp_gf) (fa (kI kp_ias) (fa (kI kp_dup) (fa (kI kp_push) (fa (kI kp_ald) (fa (kI kp_gf) (fa (kI kp_ias) (fa (kI kp_dup) (fa (kI kp_push) (fa (kI kp_push) (fa (kI kp_ias) (fa kC (fa (kI kp_push) (fa (kI kp_nai) (fa (kI kp_dup) (fa (kI kp_push) (fa (kI kp_ald) (fa (kI kp_gf) (fa (kI kp_ias) (fa (kI kp_dup) (fa (kI kp_push) (fa (kI kp_ald) (fa (kI kp_gf) (fa (kI kp_ias) (fa (kI kp_dup) (fa (kI kp_push) (fa (kI kp_ald) (fa (kI kp_gf) (fa (kI kp_push) (fa (kI kp_ic) (fa (kI kp_push) (fa (kI kp_go) (fa (kI kp_push) (fa (kI kp_ias) (fa kC f0))))))))))))))))))))))))))))))))))))))))))))))))))))))))))
set_option maxRecDepth 100000 in
set_option maxHeartbeats 4000000 in
theorem kp_Ch_shareOf : ∀ (pc : Nat) (i : aIn), k_Ch_shareOf pc = some i → KI pc i := lkl_ok (P := KI) (fa (kI kp_ald) (fa (kI kp_gf) (fa (kI kp_push) (fa (kI kp_ic) (fa (kI kp_ald) (fa (kI kp_gf) (fa (kI kp_ild) (fa (kI kp_ic) (fa (kI kp_ald) (fa (kI kp_gf) (fa (kI kp_ild) (fa (kI kp_ic) (fa (kI kp_push) (fa (kI kp_go) (fa (kI kp_push) (fa kC (fa (kI kp_ald) (fa (kI kp_gf) (fa (kI kp_ild) (fa (kI kp_ic) (fa (kI kp_push) (fa (kI kp_go) (fa (kI kp_push) (fa kC f0))))))))))))))))))))))))
set_option maxRecDepth 100000 in
set_option maxHeartbeats 4000000 in
theorem kp_Kp_init : ∀ (pc : Nat) (i : aIn), k_Kp_init pc = some i → KI pc i := lkl_ok (P := KI) (fa (kI kp_ald) (fa (kI kp_oi) (fa (kI kp_ald) (fa (kI kp_push) (fa (kI kp_nai) (fa (kI kp_pf) (fa (kI kp_ald) (fa (kI kp_push) (fa (kI kp_nai) (fa (kI kp_pf) (fa kC f0)))))))))))
set_option maxRecDepth 100000 in
set_option maxHeartbeats 4000000 in
theorem kp_Kp_after : ∀ (pc : Nat) (i : aIn), k_Kp_after pc = some i → KI pc i := lkl_ok (P := KI) (fa (kI kp_ald) (fa (kI kp_ald) (fa (kI kp_gf) (fa (kI kp_gf) (fa (kI kp_pf) (fa (kI kp_ald) (fa (kI kp_ald) (fa (kI kp_pf) (fa (kI kp_ald) (fa (kI kp_ild) (fa (kI kp_pf) (fa (kI kp_ald) (fa (kI kp_ald) (fa (kI kp_gf) (fa (kI kp_push) (fa kC (fa (kI kp_pf) (fa (kI kp_ald) (fa (kI kp_push) (fa (kI kp_pf) (fa (kI kp_ald) (fa kC (fa (kI kp_ald) (fa kC (fa (kI kp_ald) (fa (kI kp_gf) (fa (kI kp_push) (fa (kI kp_ic) (fa (kI kp_ald) (fa kC (fa (kI kp_ald) (fa (kI kp_ald) (fa kC (fa kC f0))))))))))))))))))))))))))))))))))
set_option maxRecDepth 100000 in
set_option maxHeartbeats 4000000 in
theorem kp_Kp_isAlike : ∀ (pc : Nat) (i : aIn), k_Kp_isAlike pc = some i → KI pc i := lkl_ok (P := KI) (fa (kI kp_ald) (fa (kI kp_gf) (fa (kI kp_if) (fa (kI kp_ald) (fa (kI kp_gf) (fa (kI kp_ild) (fa (kI kp_ra) (fa (kI kp_gf) (fa kC (fa (kI kp_ald) (fa (kI kp_gf) (fa (kI kp_ild) (fa (kI kp_ia) (fa kC (fa (kI kp_ic) (fa (kI kp_push) (fa (kI kp_go) (fa (kI kp_push) (fa (kI kp_go) (fa (kI kp_ald) (fa (kI kp_gf) (fa (kI kp_ild) (fa (kI kp_ra) (fa (kI kp_gf) (fa (kI kp_ald) (fa (kI kp_gf) (fa (kI kp_ild) (fa (kI kp_ia) (fa (kI kp_ic) (fa (kI kp_push) (fa (kI kp_go) (fa (kI kp_push) (fa kC f0)))))))))))))))))))))))))))))))))
set_option maxRecDepth 100000 in
set_option maxHeartbeats 4000000 in
theorem kp_Kp_wordingOf : ∀ (pc : Nat) (i : aIn), k_Kp_wordingOf pc = some i → KI pc i := lkl_ok (P := KI) (fa (kI kp_ild) (fa (kI kp_push) (fa (kI kp_div) (fa kC f0))))
set_option maxRecDepth 100000 in
set_option maxHeartbeats 4000000 in
theorem kp_Kp_countMost : ∀ (pc : Nat) (i : aIn), k_Kp_countMost pc = some i → KI pc i := lkl_ok (P := KI) (fa (kI kp_ald) (fa (kI kp_gf) (fa (kI kp_push) (fa kC (fa (kI kp_ald) (fa (kI kp_gf) (fa (kI kp_len) (fa (kI kp_push) (fa (kI kp_bin) (fa (kI kp_ist) (fa (kI kp_ild) (fa (kI kp_if) (fa (kI kp_ald) (fa (kI kp_gf) (fa (kI kp_push) (fa (kI kp_bin) (fa (kI kp_ist) (fa (kI kp_ild) (fa (kI kp_if) (fa (kI kp_ild) (fa (kI kp_push) (fa (kI kp_bin) (fa (kI kp_ild) (fa (kI kp_bin) (fa (kI kp_ist) (fa (kI kp_ald) (fa (kI kp_gf) (fa (kI kp_ild) (fa (kI kp_ald) (fa (kI kp_ild) (fa (kI kp_ild) (fa kC (fa (kI kp_if) (fa (kI kp_push) (fa (kI kp_ald) (fa (kI kp_gf) (fa (kI kp_ild) (fa (kI kp_push) (fa (kI kp_bin) (fa (kI kp_push) (fa (kI kp_bin) (fa (kI kp_ia) (fa (kI kp_bin) (fa (kI kp_go) (fa (kI kp_ald) (fa (kI kp_gf) (fa (kI kp_ild) (fa (kI kp_push) (fa (kI kp_bin) (fa (kI kp_ia) (fa (kI kp_ald) (fa (kI kp_gf) (fa (kI kp_ild) (fa (kI kp_push) (fa (kI kp_bin) (fa (kI kp_ia) (fa kC (fa (kI kp_ias) (fa (kI kp_inc) (fa (kI kp_go) (fa (kI kp_inc) (fa (kI kp_go) (fa kC f0)))))))))))))))))))))))))))))))))))))))))))))))))))))))))))))))
set_option maxRecDepth 100000 in
set_option maxHeartbeats 4000000 in
theorem kp_Kp_pairInOrder : ∀ (pc : Nat) (i : aIn), k_Kp_pairInOrder pc = some i → KI pc i := lkl_ok (P := KI) (fa (kI kp_push) (fa (kI kp_ist) (fa (kI kp_push) (fa (kI kp_ist) (fa (kI kp_ild) (fa (kI kp_ald) (fa (kI kp_gf) (fa (kI kp_ic) (fa (kI kp_ald) (fa (kI kp_ild) (fa (kI kp_ild) (fa kC (fa (kI kp_ist) (fa (kI kp_ald) (fa (kI kp_gf) (fa (kI kp_ild) (fa (kI kp_ild) (fa (kI kp_ias) (fa (kI kp_ild) (fa (kI kp_push) (fa (kI kp_ic) (fa (kI kp_ald) (fa (kI kp_dup) (fa (kI kp_gf) (fa (kI kp_push) (fa (kI kp_ild) (fa (kI kp_bin) (fa (kI kp_bin) (fa (kI kp_pf) (fa (kI kp_ild) (fa (kI kp_push) (fa (kI kp_bin) (fa (kI kp_ist) (fa (kI kp_inc) (fa (kI kp_go) (fa kC f0))))))))))))))))))))))))))))))))))))
set_option maxRecDepth 100000 in
set_option maxHeartbeats 4000000 in
theorem kp_Kp_leastOld : ∀ (pc : Nat) (i : aIn), k_Kp_leastOld pc = some i → KI pc i := lkl_ok (P := KI) (fa (kI kp_ald) (fa (kI kp_gf) (fa (kI kp_ild) (fa (kI kp_push) (fa (kI kp_bin) (fa (kI kp_ild) (fa (kI kp_bin) (fa (kI kp_ia) (fa (kI kp_ist) (fa (kI kp_ild) (fa (kI kp_ist) (fa (kI kp_ild) (fa (kI kp_ald) (fa (kI kp_gf) (fa (kI kp_len) (fa (kI kp_ic) (fa (kI kp_ald) (fa (kI kp_ild) (fa (kI kp_ild) (fa kC (fa (kI kp_if) (fa (kI kp_push) (fa (kI kp_ald) (fa (kI kp_gf) (fa (kI kp_ild) (fa (kI kp_push) (fa (kI kp_bin) (fa (kI kp_push) (fa (kI kp_bin) (fa (kI kp_ild) (fa (kI kp_bin) (fa (kI kp_push) (fa (kI kp_bin) (fa (kI kp_ia) (fa (kI kp_bin) (fa (kI kp_ild) (fa (kI kp_ic) (fa (kI kp_ild) (fa kC (fa (kI kp_inc) (fa (kI kp_go) (fa (kI kp_push) (fa kC f0)))))))))))))))))))))))))))))))))))))))))))
set_option maxRecDepth 100000 in
set_option maxHeartbeats 4000000 in
theorem kp_Kp_pairMoved : ∀ (pc : Nat) (i : aIn), k_Kp_pairMoved pc = some i → KI pc i := lkl_ok (P := KI) (fa (kI kp_push) (fa (kI kp_ist) (fa (kI kp_ild) (fa (kI kp_ald) (fa (kI kp_gf) (fa (kI kp_ic) (fa (kI kp_ald) (fa (kI kp_gf) (fa (kI kp_ild) (fa (kI kp_ia) (fa (kI kp_push) (fa (kI kp_ic) (fa (kI kp_ald) (fa (kI kp_ald) (fa (kI kp_gf) (fa (kI kp_ild) (fa (kI kp_ia) (fa kC (fa (kI kp_ist) (fa (kI kp_ald) (fa (kI kp_gf) (fa (kI kp_ild) (fa (kI kp_ild) (fa (kI kp_ias) (fa (kI kp_ild) (fa (kI kp_push) (fa (kI kp_ic) (fa (kI kp_ald) (fa (kI kp_dup) (fa (kI kp_gf) (fa (kI kp_push) (fa (kI kp_ild) (fa (kI kp_bin) (fa (kI kp_bin) (fa (kI kp_pf) (fa (kI kp_inc) (fa (kI kp_go) (fa kC f0))))))))))))))))))))))))))))))))))))))
set_option maxRecDepth 100000 in
set_option maxHeartbeats 4000000 in
theorem kp_Kp_firstLeftOf : ∀ (pc : Nat) (i : aIn), k_Kp_firstLeftOf pc = some i → KI pc i := lkl_ok (P := KI) (fa (kI kp_push) (fa (kI kp_ist) (fa (kI kp_ild) (fa (kI kp_ald) (fa (kI kp_gf) (fa (kI kp_len) (fa (kI kp_ic) (fa (kI kp_ald) (fa (kI kp_gf) (fa (kI kp_ild) (fa (kI kp_bin) (fa (kI kp_push) (fa (kI kp_bin) (fa (kI kp_if) (fa (kI kp_ald) (fa (kI kp_gf) (fa (kI kp_ild) (fa (kI kp_ra) (fa (kI kp_gf) (fa (kI kp_ild) (fa (kI kp_ic) (fa (kI kp_ild) (fa kC (fa (kI kp_inc) (fa (kI kp_go) (fa (kI kp_push) (fa kC f0)))))))))))))))))))))))))))
set_option maxRecDepth 100000 in
set_option maxHeartbeats 4000000 in
theorem kp_Kp_newPage : ∀ (pc : Nat) (i : aIn), k_Kp_newPage pc = some i → KI pc i := lkl_ok (P := KI) (fa (kI kp_ald) (fa (kI kp_gf) (fa (kI kp_nar) (fa (kI kp_ast) (fa (kI kp_ald) (fa kC (fa (kI kp_ast) (fa (kI kp_push) (fa (kI kp_ist) (fa (kI kp_ild) (fa (kI kp_ald) (fa (kI kp_gf) (fa (kI kp_ic) (fa (kI kp_ald) (fa (kI kp_gf) (fa (kI kp_ild) (fa (kI kp_ia) (fa (kI kp_ist) (fa (kI kp_ild) (fa (kI kp_push) (fa (kI kp_ic) (fa (kI kp_ald) (fa (kI kp_ild) (fa (kI kp_new) (fa (kI kp_dup) (fa (kI kp_ald) (fa (kI kp_gf) (fa (kI kp_ild) (fa (kI kp_ia) (fa (kI kp_ald) (fa (kI kp_gf) (fa (kI kp_ald) (fa kC (fa (kI kp_ras) (fa (kI kp_go) (fa (kI kp_ald) (fa (kI kp_ild) (fa (kI kp_ald) (fa (kI kp_gf) (fa (kI kp_ild) (fa (kI kp_ra) (fa (kI kp_ald) (fa (kI kp_gf) (fa (kI kp_ild) (fa (kI kp_ia) (fa kC (fa (kI kp_ras) (fa (kI kp_ald) (fa (kI kp_dup) (fa (kI kp_gf) (fa (kI kp_push) (fa (kI kp_bin) (fa (kI kp_pf) (fa (kI kp_inc) (fa (kI kp_go) (fa (kI kp_new) (fa (kI kp_dup) (fa (kI kp_ald) (fa kC (fa kC f0))))))))))))))))))))))))))))))))))))))))))))))))))))))))))))
set_option maxRecDepth 100000 in
set_option maxHeartbeats 4000000 in
theorem kp_Li_init : ∀ (pc : Nat) (i : aIn), k_Li_init pc = some i → KI pc i := lkl_ok (P := KI) (fa (kI kp_ald) (fa (kI kp_oi) (fa (kI kp_ald) (fa (kI kp_ild) (fa (kI kp_pf) (fa (kI kp_ald) (fa (kI kp_ild) (fa (kI kp_pf) (fa (kI kp_ald) (fa (kI kp_ald) (fa (kI kp_pf) (fa kC f0))))))))))))
set_option maxRecDepth 100000 in
set_option maxHeartbeats 4000000 in
theorem kp_Li_markCount : ∀ (pc : Nat) (i : aIn), k_Li_markCount pc = some i → KI pc i := lkl_ok (P := KI) (fa (kI kp_ald) (fa (kI kp_gf) (fa (kI kp_len) (fa (kI kp_push) (fa (kI kp_div) (fa kC f0))))))
set_option maxRecDepth 100000 in
set_option maxHeartbeats 4000000 in
theorem kp_Li_markTold : ∀ (pc : Nat) (i : aIn), k_Li_markTold pc = some i → KI pc i := lkl_ok (P := KI) (fa (kI kp_ild) (fa (kI kp_if) (fa (kI kp_ild) (fa (kI kp_ald) (fa kC (fa (kI kp_ic) (fa (kI kp_ild) (fa (kI kp_if) (fa (kI kp_ild) (fa (kI kp_push) (fa (kI kp_ic) (fa (kI kp_push) (fa kC (fa (kI kp_ald) (fa (kI kp_gf) (fa (kI kp_ild) (fa (kI kp_push) (fa (kI kp_bin) (fa (kI kp_ild) (fa (kI kp_bin) (fa (kI kp_ia) (fa kC f0))))))))))))))))))))))
set_option maxRecDepth 100000 in
set_option maxHeartbeats 4000000 in
theorem kp_Li_pointsOf : ∀ (pc : Nat) (i : aIn), k_Li_pointsOf pc = some i → KI pc i := lkl_ok (P := KI) (fa (kI kp_push) (fa (kI kp_ist) (fa (kI kp_ild) (fa (kI kp_push) (fa (kI kp_bin) (fa (kI kp_ist) (fa (kI kp_ild) (fa (kI kp_push) (fa (kI kp_bin) (fa (kI kp_ald) (fa (kI kp_gf) (fa (kI kp_len) (fa (kI kp_ic) (fa (kI kp_ald) (fa (kI kp_gf) (fa (kI kp_ild) (fa (kI kp_push) (fa (kI kp_bin) (fa (kI kp_ia) (fa (kI kp_ild) (fa (kI kp_ald) (fa (kI kp_gf) (fa (kI kp_ild) (fa (kI kp_push) (fa (kI kp_bin) (fa (kI kp_ia) (fa (kI kp_bin) (fa (kI kp_push) (fa (kI kp_div) (fa (kI kp_bin) (fa (kI kp_ist) (fa (kI kp_ald) (fa (kI kp_gf) (fa (kI kp_ild) (fa (kI kp_ia) (fa (kI kp_ild) (fa (kI kp_ic) (fa (kI kp_ild) (fa (kI kp_if) (fa (kI kp_ild) (fa (kI kp_ild) (fa (kI kp_bin) (fa (kI kp_ist) (fa (kI kp_inc) (fa (kI kp_go) (fa (kI kp_ild) (fa kC f0)))))))))))))))))))))))))))))))))))))))))))))))
set_option maxRecDepth 100000 in
set_option maxHeartbeats 4000000 in
theorem kp_Li_pointsIfRead : ∀ (pc : Nat) (i : aIn), k_Li_pointsIfRead pc = some i → KI pc i := lkl_ok (P := KI) (fa (kI kp_ald) (fa (kI kp_ild) (fa (kI kp_ild) (fa (kI kp_ald) (fa kC (fa kC (fa (kI kp_push) (fa (kI kp_bin) (fa kC f0)))))))))
set_option maxRecDepth 100000 in
set_option maxHeartbeats 4000000 in
theorem kp_Li_withText : ∀ (pc : Nat) (i : aIn), k_Li_withText pc = some i → KI pc i := lkl_ok (P := KI) (fa (kI kp_ild) (fa (kI kp_ald) (fa (kI kp_gf) (fa (kI kp_ic) (fa (kI kp_ald) (fa (kI kp_go) (fa (kI kp_new) (fa (kI kp_dup) (fa (kI kp_ild) (fa (kI kp_ald) (fa (kI kp_gf) (fa (kI kp_ald) (fa (kI kp_gf) (fa kC (fa kC f0)))))))))))))))
set_option maxRecDepth 100000 in
set_option maxHeartbeats 4000000 in
theorem kp_Li_readBy : ∀ (pc : Nat) (i : aIn), k_Li_readBy pc = some i → KI pc i := lkl_ok (P := KI) (fa (kI kp_ald) (fa kC (fa (kI kp_push) (fa (kI kp_bin) (fa (kI kp_ist) (fa (kI kp_ald) (fa (kI kp_gf) (fa (kI kp_len) (fa (kI kp_ild) (fa (kI kp_bin) (fa (kI kp_ist) (fa (kI kp_ild) (fa (kI kp_push) (fa (kI kp_bin) (fa (kI kp_nai) (fa (kI kp_ast) (fa (kI kp_ald) (fa (kI kp_gf) (fa (kI kp_ild) (fa (kI kp_ald) (fa (kI kp_push) (fa (kI kp_ild) (fa (kI kp_cpy) (fa (kI kp_ald) (fa (kI kp_ild) (fa (kI kp_ild) (fa (kI kp_ias) (fa (kI kp_ald) (fa (kI kp_ild) (fa (kI kp_push) (fa (kI kp_bin) (fa (kI kp_ild) (fa (kI kp_ias) (fa (kI kp_ald) (fa (kI kp_ild) (fa (kI kp_push) (fa (kI kp_bin) (fa (kI kp_push) (fa (kI kp_ias) (fa (kI kp_new) (fa (kI kp_dup) (fa (kI kp_ald) (fa (kI kp_gf) (fa (kI kp_ald) (fa (kI kp_gf) (fa (kI kp_ald) (fa kC (fa kC f0))))))))))))))))))))))))))))))))))))))))))))))))
set_option maxRecDepth 100000 in
set_option maxHeartbeats 4000000 in
theorem kp_Li_marksToGo : ∀ (pc : Nat) (i : aIn), k_Li_marksToGo pc = some i → KI pc i := lkl_ok (P := KI) (fa (kI kp_ald) (fa (kI kp_gf) (fa (kI kp_len) (fa (kI kp_push) (fa (kI kp_ic) (fa (kI kp_push) (fa (kI kp_go) (fa (kI kp_push) (fa kC f0)))))))))
set_option maxRecDepth 100000 in
set_option maxHeartbeats 4000000 in
theorem kp_Pg_init : ∀ (pc : Nat) (i : aIn), k_Pg_init pc = some i → KI pc i := lkl_ok (P := KI) (fa (kI kp_ald) (fa (kI kp_oi) (fa (kI kp_ald) (fa (kI kp_ald) (fa (kI kp_pf) (fa kC f0))))))
set_option maxRecDepth 100000 in
set_option maxHeartbeats 4000000 in
theorem kp_Pg_size : ∀ (pc : Nat) (i : aIn), k_Pg_size pc = some i → KI pc i := lkl_ok (P := KI) (fa (kI kp_ald) (fa (kI kp_gf) (fa (kI kp_len) (fa kC f0))))
set_option maxRecDepth 100000 in
set_option maxHeartbeats 4000000 in
theorem kp_Pg_rowAt : ∀ (pc : Nat) (i : aIn), k_Pg_rowAt pc = some i → KI pc i := lkl_ok (P := KI) (fa (kI kp_ild) (fa (kI kp_if) (fa (kI kp_ild) (fa (kI kp_ald) (fa (kI kp_gf) (fa (kI kp_len) (fa (kI kp_ic) (fa (kI kp_ald) (fa (kI kp_gf) (fa (kI kp_ild) (fa (kI kp_ra) (fa (kI kp_go) (fa (kI kp_push) (fa kC f0))))))))))))))
set_option maxRecDepth 100000 in
set_option maxHeartbeats 4000000 in
theorem kp_Pg_knownBy : ∀ (pc : Nat) (i : aIn), k_Pg_knownBy pc = some i → KI pc i := lkl_ok (P := KI) (fa (kI kp_push) (fa (kI kp_ist) (fa (kI kp_ald) (fa (kI kp_gf) (fa (kI kp_ast) (fa (kI kp_ald) (fa (kI kp_len) (fa (kI kp_ist) (fa (kI kp_push) (fa (kI kp_ist) (fa (kI kp_ild) (fa (kI kp_ild) (fa (kI kp_ic) (fa (kI kp_ald) (fa (kI kp_ild) (fa (kI kp_ra) (fa (kI kp_ast) (fa (kI kp_ald) (fa (kI kp_ild) (fa (kI kp_ild) (fa (kI kp_push) (fa kC (fa (kI kp_push) (fa (kI kp_ic) (fa (kI kp_inc) (fa (kI kp_inc) (fa (kI kp_go) (fa (kI kp_ild) (fa kC f0)))))))))))))))))))))))))))))
set_option maxRecDepth 100000 in
set_option maxHeartbeats 4000000 in
theorem kp_Pg_knownIfRead : ∀ (pc : Nat) (i : aIn), k_Pg_knownIfRead pc = some i → KI pc i := lkl_ok (P := KI) (fa (kI kp_push) (fa (kI kp_ist) (fa (kI kp_ald) (fa (kI kp_gf) (fa (kI kp_ast) (fa (kI kp_ald) (fa (kI kp_len) (fa (kI kp_ist) (fa (kI kp_push) (fa (kI kp_ist) (fa (kI kp_ild) (fa (kI kp_ild) (fa (kI kp_ic) (fa (kI kp_ald) (fa (kI kp_ild) (fa (kI kp_ra) (fa (kI kp_ast) (fa (kI kp_ald) (fa (kI kp_ild) (fa (kI kp_ild) (fa kC (fa (kI kp_push) (fa (kI kp_ic) (fa (kI kp_inc) (fa (kI kp_inc) (fa (kI kp_go) (fa (kI kp_ild) (fa kC f0))))))))))))))))))))))))))))
set_option maxRecDepth 100000 in
set_option maxHeartbeats 4000000 in
theorem kp_Pg_madeBy : ∀ (pc : Nat) (i : aIn), k_Pg_madeBy pc = some i → KI pc i := lkl_ok (P := KI) (fa (kI kp_push) (fa (kI kp_ist) (fa (kI kp_ald) (fa (kI kp_gf) (fa (kI kp_ast) (fa (kI kp_ald) (fa (kI kp_len) (fa (kI kp_ist) (fa (kI kp_push) (fa (kI kp_ist) (fa (kI kp_ild) (fa (kI kp_ild) (fa (kI kp_ic) (fa (kI kp_ald) (fa (kI kp_ild) (fa (kI kp_ra) (fa (kI kp_ast) (fa (kI kp_ald) (fa (kI kp_gf) (fa (kI kp_ild) (fa (kI kp_ic) (fa (kI kp_inc) (fa (kI kp_inc) (fa (kI kp_go) (fa (kI kp_ild) (fa kC f0))))))))))))))))))))))))))
set_option maxRecDepth 100000 in
set_option maxHeartbeats 4000000 in
theorem kp_Pg_readBy : ∀ (pc : Nat) (i : aIn), k_Pg_readBy pc = some i → KI pc i := lkl_ok (P := KI) (fa (kI kp_ald) (fa (kI kp_gf) (fa (kI kp_len) (fa (kI kp_nar) (fa (kI kp_ast) (fa (kI kp_push) (fa (kI kp_ist) (fa (kI kp_ild) (fa (kI kp_ald) (fa (kI kp_gf) (fa (kI kp_len) (fa (kI kp_ic) (fa (kI kp_ald) (fa (kI kp_ild) (fa (kI kp_ild) (fa (kI kp_ild) (fa (kI kp_ic) (fa (kI kp_ild) (fa (kI kp_ild) (fa (kI kp_ic) (fa (kI kp_ald) (fa (kI kp_gf) (fa (kI kp_ild) (fa (kI kp_ra) (fa (kI kp_ild) (fa (kI kp_ild) (fa kC (fa (kI kp_go) (fa (kI kp_ald) (fa (kI kp_gf) (fa (kI kp_ild) (fa (kI kp_ra) (fa (kI kp_ras) (fa (kI kp_inc) (fa (kI kp_go) (fa (kI kp_new) (fa (kI kp_dup) (fa (kI kp_ald) (fa kC (fa kC f0))))))))))))))))))))))))))))))))))))))))
set_option maxRecDepth 100000 in
set_option maxHeartbeats 4000000 in
theorem kp_Pl_init : ∀ (pc : Nat) (i : aIn), k_Pl_init pc = some i → KI pc i := lkl_ok (P := KI) (fa (kI kp_ald) (fa (kI kp_oi) (fa (kI kp_ald) (fa (kI kp_push) (fa (kI kp_nai) (fa (kI kp_pf) (fa (kI kp_ald) (fa (kI kp_push) (fa (kI kp_nai) (fa (kI kp_pf) (fa (kI kp_ald) (fa (kI kp_push) (fa (kI kp_nai) (fa (kI kp_pf) (fa (kI kp_ald) (fa (kI kp_push) (fa (kI kp_nai) (fa (kI kp_pf) (fa kC f0)))))))))))))))))))
set_option maxRecDepth 100000 in
set_option maxHeartbeats 4000000 in
theorem kp_Pl_workOut : ∀ (pc : Nat) (i : aIn), k_Pl_workOut pc = some i → KI pc i := lkl_ok (P := KI) (fa (kI kp_ald) (fa (kI kp_ald) (fa kC (fa (kI kp_ald) (fa (kI kp_ald) (fa (kI kp_ald) (fa (kI kp_ild) (fa kC (fa (kI kp_if) (fa (kI kp_push) (fa kC (fa (kI kp_ald) (fa kC (fa (kI kp_ald) (fa (kI kp_ald) (fa (kI kp_gf) (fa (kI kp_ald) (fa (kI kp_gf) (fa (kI kp_ia) (fa (kI kp_pf) (fa (kI kp_ald) (fa (kI kp_gf) (fa (kI kp_push) (fa (kI kp_ic) (fa (kI kp_push) (fa kC (fa (kI kp_ald) (fa kC (fa (kI kp_push) (fa kC f0))))))))))))))))))))))))))))))
set_option maxRecDepth 100000 in
set_option maxHeartbeats 4000000 in
theorem kp_Pl_priceTasks : ∀ (pc : Nat) (i : aIn), k_Pl_priceTasks pc = some i → KI pc i := lkl_ok (P := KI) (fa (kI kp_push) (fa (kI kp_ist) (fa (kI kp_ild) (fa (kI kp_push) (fa (kI kp_ic) (fa (kI kp_push) (fa (kI kp_ist) (fa (kI kp_ild) (fa (kI kp_push) (fa (kI kp_ic) (fa (kI kp_ald) (fa (kI kp_ild) (fa kC (fa (kI kp_if) (fa (kI kp_ald) (fa (kI kp_ild) (fa kC (fa (kI kp_if) (fa (kI kp_push) (fa (kI kp_go) (fa (kI kp_push) (fa (kI kp_ist) (fa (kI kp_ald) (fa (kI kp_gf) (fa (kI kp_ild) (fa (kI kp_push) (fa (kI kp_bin) (fa (kI kp_ild) (fa (kI kp_bin) (fa (kI kp_ild) (fa (kI kp_if) (fa (kI kp_ald) (fa (kI kp_ild) (fa (kI kp_ald) (fa (kI kp_gf) (fa (kI kp_ild) (fa (kI kp_ra) (fa kC (fa (kI kp_go) (fa (kI kp_push) (fa (kI kp_ias) (fa (kI kp_inc) (fa (kI kp_go) (fa (kI kp_inc) (fa (kI kp_go) (fa kC f0))))))))))))))))))))))))))))))))))))))))))))))
set_option maxRecDepth 100000 in
set_option maxHeartbeats 4000000 in
theorem kp_Pl_priceOf : ∀ (pc : Nat) (i : aIn), k_Pl_priceOf pc = some i → KI pc i := lkl_ok (P := KI) (fa (kI kp_ald) (fa (kI kp_ild) (fa (kI kp_ald) (fa (kI kp_gf) (fa kC (fa (kI kp_ist) (fa (kI kp_ald) (fa kC (fa (kI kp_ild) (fa (kI kp_bin) (fa (kI kp_ist) (fa (kI kp_ald) (fa (kI kp_ild) (fa (kI kp_ald) (fa kC (fa (kI kp_if) (fa (kI kp_ild) (fa (kI kp_ald) (fa (kI kp_gf) (fa (kI kp_ild) (fa (kI kp_ia) (fa (kI kp_ic) (fa (kI kp_ald) (fa (kI kp_ald) (fa (kI kp_ild) (fa (kI kp_ald) (fa (kI kp_gf) (fa kC (fa (kI kp_ald) (fa kC (fa (kI kp_if) (fa (kI kp_push) (fa (kI kp_go) (fa (kI kp_push) (fa (kI kp_ist) (fa (kI kp_ild) (fa (kI kp_if) (fa (kI kp_ild) (fa (kI kp_go) (fa (kI kp_push) (fa kC f0)))))))))))))))))))))))))))))))))))))))))
set_option maxRecDepth 100000 in
set_option maxHeartbeats 4000000 in
theorem kp_Pl_openSlots : ∀ (pc : Nat) (i : aIn), k_Pl_openSlots pc = some i → KI pc i := lkl_ok (P := KI) (fa (kI kp_push) (fa (kI kp_ist) (fa (kI kp_push) (fa (kI kp_ist) (fa (kI kp_ild) (fa (kI kp_push) (fa (kI kp_ic) (fa (kI kp_ald) (fa (kI kp_gf) (fa (kI kp_ild) (fa (kI kp_ra) (fa kC (fa (kI kp_if) (fa (kI kp_push) (fa (kI kp_go) (fa (kI kp_push) (fa (kI kp_ild) (fa (kI kp_ald) (fa (kI kp_ild) (fa kC (fa (kI kp_bin) (fa kC (fa (kI kp_ist) (fa (kI kp_ild) (fa (kI kp_ild) (fa (kI kp_bin) (fa (kI kp_push) (fa (kI kp_ic) (fa (kI kp_push) (fa kC (fa (kI kp_ald) (fa (kI kp_gf) (fa (kI kp_ild) (fa (kI kp_push) (fa (kI kp_ild) (fa (kI kp_bin) (fa (kI kp_push) (fa (kI kp_bin) (fa (kI kp_ild) (fa (kI kp_bin) (fa (kI kp_ias) (fa (kI kp_ild) (fa (kI kp_ild) (fa (kI kp_bin) (fa (kI kp_ist) (fa (kI kp_inc) (fa (kI kp_go) (fa (kI kp_ald) (fa (kI kp_push) (fa (kI kp_ild) (fa (kI kp_bin) (fa (kI kp_push) (fa (kI kp_bin) (fa (kI kp_pf) (fa (kI kp_push) (fa kC f0))))))))))))))))))))))))))))))))))))))))))))))))))))))))
set_option maxRecDepth 100000 in
set_option maxHeartbeats 4000000 in
theorem kp_Pl_countLeast : ∀ (pc : Nat) (i : aIn), k_Pl_countLeast pc = some i → KI pc i := lkl_ok (P := KI) (fa (kI kp_ald) (fa (kI kp_gf) (fa (kI kp_push) (fa kC (fa (kI kp_ald) (fa (kI kp_gf) (fa (kI kp_push) (fa (kI kp_push) (fa (kI kp_ias) (fa (kI kp_push) (fa (kI kp_ist) (fa (kI kp_ild) (fa (kI kp_if) (fa (kI kp_push) (fa (kI kp_ist) (fa (kI kp_ild) (fa (kI kp_ald) (fa (kI kp_gf) (fa (kI kp_ic) (fa (kI kp_ald) (fa (kI kp_gf) (fa (kI kp_ild) (fa (kI kp_push) (fa (kI kp_bin) (fa (kI kp_push) (fa (kI kp_bin) (fa (kI kp_ild) (fa (kI kp_bin) (fa (kI kp_ia) (fa (kI kp_ist) (fa (kI kp_push) (fa (kI kp_ist) (fa (kI kp_ild) (fa (kI kp_push) (fa (kI kp_ic) (fa (kI kp_ild) (fa (kI kp_ald) (fa (kI kp_ild) (fa (kI kp_ild) (fa (kI kp_ild) (fa kC (fa kC (fa (kI kp_ist) (fa (kI kp_inc) (fa (kI kp_go) (fa (kI kp_ald) (fa (kI kp_gf) (fa (kI kp_ild) (fa (kI kp_push) (fa (kI kp_bin) (fa (kI kp_ild) (fa (kI kp_bin) (fa (kI kp_ild) (fa (kI kp_ias) (fa (kI kp_inc) (fa (kI kp_go) (fa (kI kp_inc) (fa (kI kp_go) (fa kC f0)))))))))))))))))))))))))))))))))))))))))))))))))))))))))))
set_option maxRecDepth 100000 in
set_option maxHeartbeats 4000000 in
theorem kp_Pl_hoursWith : ∀ (pc : Nat) (i : aIn), k_Pl_hoursWith pc = some i → KI pc i := lkl_ok (P := KI) (fa (kI kp_ild) (fa (kI kp_ald) (fa (kI kp_gf) (fa (kI kp_ild) (fa (kI kp_ia) (fa (kI kp_bin) (fa (kI kp_if) (fa (kI kp_ald) (fa (kI kp_gf) (fa (kI kp_ild) (fa (kI kp_push) (fa (kI kp_bin) (fa (kI kp_ild) (fa (kI kp_bin) (fa (kI kp_ia) (fa (kI kp_push) (fa (kI kp_ic) (fa (kI kp_push) (fa kC (fa (kI kp_ald) (fa (kI kp_gf) (fa (kI kp_ild) (fa (kI kp_push) (fa (kI kp_bin) (fa (kI kp_ild) (fa (kI kp_bin) (fa (kI kp_ia) (fa (kI kp_ald) (fa (kI kp_gf) (fa (kI kp_ild) (fa (kI kp_push) (fa (kI kp_bin) (fa (kI kp_push) (fa (kI kp_bin) (fa (kI kp_ald) (fa (kI kp_ild) (fa (kI kp_ild) (fa kC (fa (kI kp_bin) (fa (kI kp_ia) (fa (kI kp_bin) (fa kC f0))))))))))))))))))))))))))))))))))))))))))
set_option maxRecDepth 100000 in
set_option maxHeartbeats 4000000 in
theorem kp_Pl_filled : ∀ (pc : Nat) (i : aIn), k_Pl_filled pc = some i → KI pc i := lkl_ok (P := KI) (fa (kI kp_ild) (fa (kI kp_ild) (fa (kI kp_ald) (fa (kI kp_gf) (fa (kI kp_ild) (fa (kI kp_ia) (fa (kI kp_bin) (fa kC (fa (kI kp_push) (fa (kI kp_bin) (fa (kI kp_bin) (fa kC f0))))))))))))
set_option maxRecDepth 100000 in
set_option maxHeartbeats 4000000 in
theorem kp_Pl_choose : ∀ (pc : Nat) (i : aIn), k_Pl_choose pc = some i → KI pc i := lkl_ok (P := KI) (fa (kI kp_ald) (fa (kI kp_gf) (fa (kI kp_ist) (fa (kI kp_push) (fa (kI kp_ist) (fa (kI kp_ild) (fa (kI kp_push) (fa (kI kp_ic) (fa (kI kp_ald) (fa (kI kp_gf) (fa (kI kp_ild) (fa (kI kp_ald) (fa (kI kp_ild) (fa (kI kp_ild) (fa kC (fa (kI kp_ias) (fa (kI kp_ald) (fa (kI kp_gf) (fa (kI kp_ild) (fa (kI kp_ia) (fa (kI kp_push) (fa (kI kp_ic) (fa (kI kp_ald) (fa (kI kp_ald) (fa (kI kp_gf) (fa (kI kp_ild) (fa (kI kp_ia) (fa (kI kp_ild) (fa kC (fa (kI kp_ist) (fa (kI kp_inc) (fa (kI kp_go) (fa kC f0)))))))))))))))))))))))))))))))))
set_option maxRecDepth 100000 in
set_option maxHeartbeats 4000000 in
theorem kp_Pl_firstFile : ∀ (pc : Nat) (i : aIn), k_Pl_firstFile pc = some i → KI pc i := lkl_ok (P := KI) (fa (kI kp_push) (fa (kI kp_ist) (fa (kI kp_ild) (fa (kI kp_push) (fa (kI kp_ic) (fa (kI kp_ald) (fa (kI kp_ild) (fa (kI kp_ild) (fa (kI kp_ild) (fa kC (fa (kI kp_ald) (fa (kI kp_gf) (fa (kI kp_ild) (fa (kI kp_push) (fa (kI kp_bin) (fa (kI kp_ild) (fa (kI kp_bin) (fa (kI kp_ia) (fa (kI kp_ic) (fa (kI kp_ild) (fa kC (fa (kI kp_inc) (fa (kI kp_go) (fa (kI kp_push) (fa kC f0)))))))))))))))))))))))))
set_option maxRecDepth 100000 in
set_option maxHeartbeats 4000000 in
theorem kp_Sh_init : ∀ (pc : Nat) (i : aIn), k_Sh_init pc = some i → KI pc i := lkl_ok (P := KI) (fa (kI kp_ald) (fa (kI kp_oi) (fa (kI kp_ald) (fa (kI kp_push) (fa (kI kp_pf) (fa (kI kp_ald) (fa (kI kp_push) (fa (kI kp_nai) (fa (kI kp_pf) (fa kC f0))))))))))
set_option maxRecDepth 100000 in
set_option maxHeartbeats 4000000 in
theorem kp_Sh_begin : ∀ (pc : Nat) (i : aIn), k_Sh_begin pc = some i → KI pc i := lkl_ok (P := KI) (fa (kI kp_ald) (fa (kI kp_ild) (fa (kI kp_pf) (fa (kI kp_ald) (fa (kI kp_ild) (fa (kI kp_pf) (fa (kI kp_ald) (fa (kI kp_gf) (fa (kI kp_push) (fa kC (fa kC f0)))))))))))
set_option maxRecDepth 100000 in
set_option maxHeartbeats 4000000 in
theorem kp_Sh_holdsTexts : ∀ (pc : Nat) (i : aIn), k_Sh_holdsTexts pc = some i → KI pc i := lkl_ok (P := KI) (fa (kI kp_push) (fa (kI kp_ist) (fa (kI kp_ild) (fa (kI kp_ald) (fa (kI kp_gf) (fa (kI kp_ic) (fa (kI kp_ald) (fa (kI kp_gf) (fa (kI kp_ild) (fa (kI kp_ia) (fa kC (fa (kI kp_if) (fa (kI kp_push) (fa kC (fa (kI kp_inc) (fa (kI kp_go) (fa (kI kp_push) (fa kC f0))))))))))))))))))
set_option maxRecDepth 100000 in
set_option maxHeartbeats 4000000 in
theorem kp_St_init : ∀ (pc : Nat) (i : aIn), k_St_init pc = some i → KI pc i := lkl_ok (P := KI) (fa (kI kp_ald) (fa (kI kp_oi) (fa (kI kp_ald) (fa (kI kp_push) (fa (kI kp_nai) (fa (kI kp_pf) (fa (kI kp_ald) (fa (kI kp_push) (fa (kI kp_pf) (fa (kI kp_ald) (fa (kI kp_push) (fa (kI kp_nai) (fa (kI kp_pf) (fa (kI kp_ald) (fa (kI kp_push) (fa (kI kp_nar) (fa (kI kp_pf) (fa (kI kp_ald) (fa (kI kp_push) (fa (kI kp_nar) (fa (kI kp_pf) (fa (kI kp_new) (fa (kI kp_dup) (fa (kI kp_push) (fa (kI kp_nar) (fa kC (fa (kI kp_ast) (fa (kI kp_push) (fa (kI kp_ist) (fa (kI kp_ild) (fa (kI kp_push) (fa (kI kp_ic) (fa (kI kp_ald) (fa (kI kp_gf) (fa (kI kp_ild) (fa (kI kp_ald) (fa (kI kp_ras) (fa (kI kp_inc) (fa (kI kp_go) (fa kC f0))))))))))))))))))))))))))))))))))))))))
set_option maxRecDepth 100000 in
set_option maxHeartbeats 4000000 in
theorem kp_St_become_0 : ∀ (pc : Nat) (i : aIn), k_St_become_0 pc = some i → KI pc i := lkl_ok (P := KI) (fa (kI kp_ald) (fa (kI kp_ald) (fa (kI kp_gf) (fa (kI kp_pf) (fa (kI kp_ald) (fa (kI kp_ald) (fa (kI kp_gf) (fa (kI kp_pf) (fa (kI kp_ald) (fa (kI kp_ald) (fa (kI kp_gf) (fa (kI kp_pf) (fa (kI kp_ald) (fa (kI kp_ald) (fa (kI kp_gf) (fa (kI kp_pf) (fa (kI kp_ald) (fa (kI kp_ald) (fa (kI kp_gf) (fa (kI kp_pf) (fa (kI kp_ald) (fa (kI kp_ald) (fa (kI kp_gf) (fa (kI kp_pf) (fa (kI kp_ald) (fa (kI kp_gf) (fa (kI kp_push) (fa (kI kp_ald) (fa (kI kp_gf) (fa (kI kp_push) (fa (kI kp_push) (fa (kI kp_cpy) (fa (kI kp_ald) (fa (kI kp_gf) (fa (kI kp_push) (fa (kI kp_ald) (fa (kI kp_gf) (fa (kI kp_push) (fa (kI kp_push) (fa (kI kp_cpy) (fa (kI kp_push) (fa (kI kp_ist) (fa (kI kp_ild) (fa (kI kp_push) (fa (kI kp_ic) (fa (kI kp_ald) (fa (kI kp_gf) (fa (kI kp_ild) (fa (kI kp_ald) (fa (kI kp_gf) f0))))))))))))))))))))))))))))))))))))))))))))))))))
set_option maxRecDepth 100000 in
set_option maxHeartbeats 4000000 in
theorem kp_St_become_1 : ∀ (pc : Nat) (i : aIn), k_St_become_1 pc = some i → KI pc i := lkl_ok (P := KI) (fa (kI kp_ild) (fa (kI kp_ra) (fa (kI kp_ras) (fa (kI kp_inc) (fa (kI kp_go) (fa (kI kp_push) (fa (kI kp_ist) (fa (kI kp_ild) (fa (kI kp_push) (fa (kI kp_ic) (fa (kI kp_ald) (fa (kI kp_gf) (fa (kI kp_ild) (fa (kI kp_ald) (fa (kI kp_gf) (fa (kI kp_ild) (fa (kI kp_ra) (fa (kI kp_ras) (fa (kI kp_inc) (fa (kI kp_go) (fa kC f0)))))))))))))))))))))
theorem kp_St_become : ∀ (pc : Nat) (i : aIn), k_St_become pc = some i → KI pc i := (lkb_ok kp_St_become_1 kp_St_become_0)
set_option maxRecDepth 100000 in
set_option maxHeartbeats 4000000 in
theorem kp_St_addPerson : ∀ (pc : Nat) (i : aIn), k_St_addPerson pc = some i → KI pc i := lkl_ok (P := KI) (fa (kI kp_ald) (fa (kI kp_gf) (fa (kI kp_ist) (fa (kI kp_ald) (fa (kI kp_gf) (fa (kI kp_ild) (fa (kI kp_ild) (fa (kI kp_ias) (fa (kI kp_ald) (fa (kI kp_dup) (fa (kI kp_gf) (fa (kI kp_push) (fa (kI kp_ild) (fa (kI kp_bin) (fa (kI kp_bin) (fa (kI kp_pf) (fa (kI kp_ald) (fa (kI kp_dup) (fa (kI kp_gf) (fa (kI kp_push) (fa (kI kp_bin) (fa (kI kp_pf) (fa (kI kp_ild) (fa kC f0))))))))))))))))))))))))
set_option maxRecDepth 100000 in
set_option maxHeartbeats 4000000 in
theorem kp_St_addChange : ∀ (pc : Nat) (i : aIn), k_St_addChange pc = some i → KI pc i := lkl_ok (P := KI) (fa (kI kp_ald) (fa (kI kp_gf) (fa (kI kp_ald) (fa (kI kp_gf) (fa (kI kp_ald) (fa (kI kp_ras) (fa (kI kp_ald) (fa (kI kp_gf) (fa (kI kp_ald) (fa (kI kp_gf) (fa (kI kp_ald) (fa (kI kp_ras) (fa (kI kp_ald) (fa (kI kp_dup) (fa (kI kp_gf) (fa (kI kp_push) (fa (kI kp_bin) (fa (kI kp_pf) (fa kC f0)))))))))))))))))))
set_option maxRecDepth 100000 in
set_option maxHeartbeats 4000000 in
theorem kp_St_isPerson : ∀ (pc : Nat) (i : aIn), k_St_isPerson pc = some i → KI pc i := lkl_ok (P := KI) (fa (kI kp_ild) (fa (kI kp_if) (fa (kI kp_ild) (fa (kI kp_ald) (fa (kI kp_gf) (fa (kI kp_ic) (fa (kI kp_push) (fa (kI kp_go) (fa (kI kp_push) (fa kC f0))))))))))
set_option maxRecDepth 100000 in
set_option maxHeartbeats 4000000 in
theorem kp_St_isHere : ∀ (pc : Nat) (i : aIn), k_St_isHere pc = some i → KI pc i := lkl_ok (P := KI) (fa (kI kp_ald) (fa (kI kp_gf) (fa (kI kp_ild) (fa (kI kp_bin) (fa (kI kp_push) (fa (kI kp_bin) (fa (kI kp_push) (fa (kI kp_ic) (fa (kI kp_push) (fa (kI kp_go) (fa (kI kp_push) (fa kC f0))))))))))))
set_option maxRecDepth 100000 in
set_option maxHeartbeats 4000000 in
theorem kp_St_pageOf : ∀ (pc : Nat) (i : aIn), k_St_pageOf pc = some i → KI pc i := lkl_ok (P := KI) (fa (kI kp_ild) (fa (kI kp_if) (fa (kI kp_ild) (fa (kI kp_push) (fa (kI kp_ic) (fa (kI kp_ald) (fa (kI kp_gf) (fa (kI kp_ild) (fa (kI kp_ra) (fa (kI kp_go) (fa (kI kp_push) (fa kC f0))))))))))))
set_option maxRecDepth 100000 in
set_option maxHeartbeats 4000000 in
theorem kp_St_lineOf : ∀ (pc : Nat) (i : aIn), k_St_lineOf pc = some i → KI pc i := lkl_ok (P := KI) (fa (kI kp_ald) (fa (kI kp_ild) (fa kC (fa (kI kp_ast) (fa (kI kp_ald) (fa (kI kp_nul) (fa (kI kp_push) (fa (kI kp_go) (fa (kI kp_ald) (fa (kI kp_ild) (fa kC (fa kC f0))))))))))))
set_option maxRecDepth 100000 in
set_option maxHeartbeats 4000000 in
theorem kp_St_changeOf : ∀ (pc : Nat) (i : aIn), k_St_changeOf pc = some i → KI pc i := lkl_ok (P := KI) (fa (kI kp_ild) (fa (kI kp_if) (fa (kI kp_ild) (fa (kI kp_ald) (fa (kI kp_gf) (fa (kI kp_ic) (fa (kI kp_ald) (fa (kI kp_gf) (fa (kI kp_ild) (fa (kI kp_ra) (fa (kI kp_go) (fa (kI kp_push) (fa kC f0)))))))))))))
set_option maxRecDepth 100000 in
set_option maxHeartbeats 4000000 in
theorem kp_St_isAble : ∀ (pc : Nat) (i : aIn), k_St_isAble pc = some i → KI pc i := lkl_ok (P := KI) (fa (kI kp_ald) (fa (kI kp_ald) (fa (kI kp_ild) (fa (kI kp_ald) (fa (kI kp_gf) (fa kC (fa (kI kp_ald) (fa kC (fa kC f0)))))))))
set_option maxRecDepth 100000 in
set_option maxHeartbeats 4000000 in
theorem kp_St_isEnough : ∀ (pc : Nat) (i : aIn), k_St_isEnough pc = some i → KI pc i := lkl_ok (P := KI) (fa (kI kp_ild) (fa (kI kp_push) (fa (kI kp_bin) (fa (kI kp_ald) (fa (kI kp_gf) (fa (kI kp_ald) (fa kC (fa (kI kp_bin) (fa (kI kp_ic) (fa (kI kp_push) (fa (kI kp_go) (fa (kI kp_push) (fa kC f0)))))))))))))
set_option maxRecDepth 100000 in
set_option maxHeartbeats 4000000 in
theorem kp_St_linesMadeBy : ∀ (pc : Nat) (i : aIn), k_St_linesMadeBy pc = some i → KI pc i := lkl_ok (P := KI) (fa (kI kp_push) (fa (kI kp_ist) (fa (kI kp_ald) (fa (kI kp_gf) (fa (kI kp_ast) (fa (kI kp_ald) (fa (kI kp_len) (fa (kI kp_ist) (fa (kI kp_push) (fa (kI kp_ist) (fa (kI kp_ild) (fa (kI kp_ild) (fa (kI kp_ic) (fa (kI kp_ald) (fa (kI kp_ild) (fa (kI kp_ra) (fa (kI kp_ast) (fa (kI kp_ild) (fa (kI kp_ald) (fa (kI kp_ild) (fa kC (fa (kI kp_bin) (fa (kI kp_ist) (fa (kI kp_inc) (fa (kI kp_go) (fa (kI kp_ild) (fa kC f0)))))))))))))))))))))))))))
set_option maxRecDepth 100000 in
set_option maxHeartbeats 4000000 in
theorem kp_St_shareOf : ∀ (pc : Nat) (i : aIn), k_St_shareOf pc = some i → KI pc i := lkl_ok (P := KI) (fa (kI kp_push) (fa (kI kp_ist) (fa (kI kp_ald) (fa (kI kp_gf) (fa (kI kp_ast) (fa (kI kp_ald) (fa (kI kp_len) (fa (kI kp_ist) (fa (kI kp_push) (fa (kI kp_ist) (fa (kI kp_ild) (fa (kI kp_ild) (fa (kI kp_ic) (fa (kI kp_ald) (fa (kI kp_ild) (fa (kI kp_ra) (fa (kI kp_ast) (fa (kI kp_ald) (fa (kI kp_ald) (fa (kI kp_gf) (fa kC (fa (kI kp_ast) (fa (kI kp_ild) (fa (kI kp_ald) (fa (kI kp_nul) (fa (kI kp_push) (fa (kI kp_go) (fa (kI kp_ald) (fa (kI kp_ild) (fa kC (fa (kI kp_bin) (fa (kI kp_ist) (fa (kI kp_inc) (fa (kI kp_go) (fa (kI kp_ild) (fa kC f0))))))))))))))))))))))))))))))))))))
set_option maxRecDepth 100000 in
set_option maxHeartbeats 4000000 in
theorem kp_Te_init : ∀ (pc : Nat) (i : aIn), k_Te_init pc = some i → KI pc i := lkl_ok (P := KI) (fa (kI kp_ald) (fa (kI kp_oi) (fa (kI kp_ald) (fa (kI kp_push) (fa (kI kp_nai) (fa (kI kp_pf) (fa kC f0)))))))
set_option maxRecDepth 100000 in
set_option maxHeartbeats 4000000 in
theorem kp_Te_gather : ∀ (pc : Nat) (i : aIn), k_Te_gather pc = some i → KI pc i := lkl_ok (P := KI) (fa (kI kp_push) (fa (kI kp_ist) (fa (kI kp_ild) (fa (kI kp_push) (fa (kI kp_ic) (fa (kI kp_push) (fa (kI kp_ist) (fa (kI kp_push) (fa (kI kp_ist) (fa (kI kp_ild) (fa (kI kp_ald) (fa (kI kp_gf) (fa (kI kp_ic) (fa (kI kp_ald) (fa (kI kp_ild) (fa kC (fa (kI kp_if) (fa (kI kp_ald) (fa (kI kp_ild) (fa (kI kp_ald) (fa (kI kp_gf) (fa (kI kp_ild) (fa (kI kp_ra) (fa kC (fa (kI kp_if) (fa (kI kp_ild) (fa (kI kp_push) (fa (kI kp_ild) (fa (kI kp_bin) (fa (kI kp_bin) (fa (kI kp_ist) (fa (kI kp_inc) (fa (kI kp_go) (fa (kI kp_ald) (fa (kI kp_gf) (fa (kI kp_ild) (fa (kI kp_ild) (fa (kI kp_ias) (fa (kI kp_inc) (fa (kI kp_go) (fa kC f0)))))))))))))))))))))))))))))))))))))))))
set_option maxRecDepth 100000 in
set_option maxHeartbeats 4000000 in
theorem kp_Te_sizeOf : ∀ (pc : Nat) (i : aIn), k_Te_sizeOf pc = some i → KI pc i := lkl_ok (P := KI) (fa (kI kp_ald) (fa (kI kp_gf) (fa (kI kp_ild) (fa (kI kp_ia) (fa kC (fa kC f0))))))
set_option maxRecDepth 100000 in
set_option maxHeartbeats 4000000 in
theorem kp_Te_lostWithout : ∀ (pc : Nat) (i : aIn), k_Te_lostWithout pc = some i → KI pc i := lkl_ok (P := KI) (fa (kI kp_push) (fa (kI kp_ist) (fa (kI kp_push) (fa (kI kp_ist) (fa (kI kp_ild) (fa (kI kp_push) (fa (kI kp_ic) (fa (kI kp_ald) (fa (kI kp_gf) (fa (kI kp_ild) (fa (kI kp_ia) (fa (kI kp_ild) (fa (kI kp_push) (fa (kI kp_bin) (fa (kI kp_bin) (fa (kI kp_if) (fa (kI kp_ild) (fa (kI kp_push) (fa (kI kp_ild) (fa (kI kp_bin) (fa (kI kp_bin) (fa (kI kp_ist) (fa (kI kp_inc) (fa (kI kp_go) (fa (kI kp_ild) (fa kC f0))))))))))))))))))))))))))
set_option maxRecDepth 100000 in
set_option maxHeartbeats 4000000 in
theorem kp_Te_loneAfter : ∀ (pc : Nat) (i : aIn), k_Te_loneAfter pc = some i → KI pc i := lkl_ok (P := KI) (fa (kI kp_push) (fa (kI kp_ist) (fa (kI kp_ald) (fa (kI kp_gf) (fa (kI kp_ast) (fa (kI kp_ald) (fa (kI kp_len) (fa (kI kp_ist) (fa (kI kp_push) (fa (kI kp_ist) (fa (kI kp_ild) (fa (kI kp_ild) (fa (kI kp_ic) (fa (kI kp_ald) (fa (kI kp_ild) (fa (kI kp_ia) (fa (kI kp_ist) (fa (kI kp_ild) (fa (kI kp_if) (fa (kI kp_ild) (fa kC (fa (kI kp_push) (fa (kI kp_ic) (fa (kI kp_push) (fa (kI kp_go) (fa (kI kp_push) (fa (kI kp_ist) (fa (kI kp_ild) (fa (kI kp_if) (fa (kI kp_ild) (fa (kI kp_ild) (fa kC (fa (kI kp_if) (fa (kI kp_ild) (fa (kI kp_if) (fa (kI kp_ild) (fa (kI kp_ild) (fa kC (fa (kI kp_if) (fa (kI kp_ild) (fa (kI kp_ist) (fa (kI kp_inc) (fa (kI kp_go) (fa (kI kp_ild) (fa kC f0)))))))))))))))))))))))))))))))))))))))))))))
set_option maxRecDepth 100000 in
set_option maxHeartbeats 4000000 in
theorem kp_Te_fewest : ∀ (pc : Nat) (i : aIn), k_Te_fewest pc = some i → KI pc i := lkl_ok (P := KI) (fa (kI kp_ild) (fa (kI kp_ist) (fa (kI kp_push) (fa (kI kp_ist) (fa (kI kp_ild) (fa (kI kp_ild) (fa (kI kp_ic) (fa (kI kp_ild) (fa (kI kp_ild) (fa (kI kp_push) (fa (kI kp_bin) (fa (kI kp_bin) (fa (kI kp_if) (fa (kI kp_ild) (fa (kI kp_ild) (fa kC (fa (kI kp_if) (fa (kI kp_ald) (fa (kI kp_ild) (fa kC (fa (kI kp_if) (fa (kI kp_ild) (fa (kI kp_ist) (fa (kI kp_inc) (fa (kI kp_go) (fa (kI kp_ild) (fa kC f0)))))))))))))))))))))))))))
set_option maxRecDepth 100000 in
set_option maxHeartbeats 4000000 in
theorem kp_Te_meetsAll : ∀ (pc : Nat) (i : aIn), k_Te_meetsAll pc = some i → KI pc i := lkl_ok (P := KI) (fa (kI kp_ald) (fa (kI kp_gf) (fa (kI kp_ast) (fa (kI kp_ald) (fa (kI kp_len) (fa (kI kp_ist) (fa (kI kp_push) (fa (kI kp_ist) (fa (kI kp_ild) (fa (kI kp_ild) (fa (kI kp_ic) (fa (kI kp_ald) (fa (kI kp_ild) (fa (kI kp_ia) (fa (kI kp_ist) (fa (kI kp_ild) (fa (kI kp_if) (fa (kI kp_ild) (fa (kI kp_ild) (fa (kI kp_bin) (fa (kI kp_if) (fa (kI kp_push) (fa kC (fa (kI kp_inc) (fa (kI kp_go) (fa (kI kp_push) (fa kC f0)))))))))))))))))))))))))))
set_option maxRecDepth 100000 in
set_option maxHeartbeats 4000000 in
theorem kp_Te_isAhead : ∀ (pc : Nat) (i : aIn), k_Te_isAhead pc = some i → KI pc i := lkl_ok (P := KI) (fa (kI kp_ild) (fa kC (fa (kI kp_ild) (fa kC (fa (kI kp_bin) (fa (kI kp_ist) (fa (kI kp_ild) (fa (kI kp_if) (fa (kI kp_ild) (fa (kI kp_if) (fa (kI kp_ild) (fa (kI kp_ild) (fa (kI kp_ic) (fa (kI kp_push) (fa (kI kp_go) (fa (kI kp_push) (fa kC f0)))))))))))))))))
set_option maxRecDepth 100000 in
set_option maxHeartbeats 4000000 in
theorem kp_C_init : ∀ (pc : Nat) (i : aIn), k_C_init pc = some i → KI pc i := lkl_ok (P := KI) (fa (kI kp_ald) (fa (kI kp_oi) (fa (kI kp_ald) (fa (kI kp_new) (fa (kI kp_dup) (fa kC (fa (kI kp_pf) (fa (kI kp_ald) (fa (kI kp_new) (fa (kI kp_dup) (fa kC (fa (kI kp_pf) (fa (kI kp_ald) (fa (kI kp_new) (fa (kI kp_dup) (fa kC (fa (kI kp_pf) (fa (kI kp_ald) (fa (kI kp_new) (fa (kI kp_dup) (fa kC (fa (kI kp_pf) (fa (kI kp_ald) (fa (kI kp_new) (fa (kI kp_dup) (fa kC (fa (kI kp_pf) (fa (kI kp_ald) (fa (kI kp_new) (fa (kI kp_dup) (fa kC (fa (kI kp_pf) (fa (kI kp_ald) (fa (kI kp_push) (fa (kI kp_nar) (fa (kI kp_pf) (fa (kI kp_push) (fa (kI kp_ist) (fa (kI kp_ild) (fa (kI kp_push) (fa (kI kp_ic) (fa (kI kp_ald) (fa (kI kp_gf) (fa (kI kp_ild) (fa (kI kp_new) (fa (kI kp_dup) (fa kC (fa (kI kp_ras) (fa (kI kp_inc) (fa (kI kp_go) (fa kC f0)))))))))))))))))))))))))))))))))))))))))))))))))))
set_option maxRecDepth 100000 in
set_option maxHeartbeats 4000000 in
theorem kp_C_person : ∀ (pc : Nat) (i : aIn), k_C_person pc = some i → KI pc i := lkl_ok (P := KI) (fa (kI kp_ild) (fa (kI kp_if) (fa (kI kp_ild) (fa (kI kp_push) (fa (kI kp_ic) (fa (kI kp_ald) (fa (kI kp_push) (fa kC (fa kC (fa (kI kp_ald) (fa (kI kp_gf) (fa (kI kp_gf) (fa (kI kp_push) (fa (kI kp_ic) (fa (kI kp_ald) (fa (kI kp_push) (fa kC (fa kC (fa (kI kp_ald) (fa (kI kp_ald) (fa (kI kp_gf) (fa (kI kp_ild) (fa kC (fa kC (fa kC f0)))))))))))))))))))))))))
set_option maxRecDepth 100000 in
set_option maxHeartbeats 4000000 in
theorem kp_C_here : ∀ (pc : Nat) (i : aIn), k_C_here pc = some i → KI pc i := lkl_ok (P := KI) (fa (kI kp_ald) (fa (kI kp_gf) (fa (kI kp_ild) (fa kC (fa (kI kp_if) (fa (kI kp_ald) (fa (kI kp_push) (fa kC (fa kC (fa (kI kp_ald) (fa (kI kp_gf) (fa (kI kp_ild) (fa kC (fa (kI kp_ist) (fa (kI kp_ald) (fa (kI kp_gf) (fa (kI kp_ild) (fa (kI kp_if) (fa (kI kp_ald) (fa (kI kp_gf) (fa (kI kp_gf) (fa (kI kp_push) (fa (kI kp_ild) (fa (kI kp_bin) (fa (kI kp_bin) (fa (kI kp_go) (fa (kI kp_ald) (fa (kI kp_gf) (fa (kI kp_gf) (fa (kI kp_push) (fa (kI kp_ild) (fa (kI kp_bin) (fa (kI kp_push) (fa (kI kp_bin) (fa (kI kp_bin) (fa (kI kp_pf) (fa (kI kp_ald) (fa (kI kp_ild) (fa (kI kp_ild) (fa (kI kp_ic) (fa (kI kp_push) (fa (kI kp_go) (fa (kI kp_push) (fa kC (fa kC f0)))))))))))))))))))))))))))))))))))))))))))))
set_option maxRecDepth 100000 in
set_option maxHeartbeats 4000000 in
theorem kp_C_day : ∀ (pc : Nat) (i : aIn), k_C_day pc = some i → KI pc i := lkl_ok (P := KI) (fa (kI kp_ild) (fa (kI kp_if) (fa (kI kp_ild) (fa (kI kp_push) (fa (kI kp_ic) (fa (kI kp_ald) (fa (kI kp_push) (fa kC (fa kC (fa (kI kp_ald) (fa (kI kp_gf) (fa (kI kp_gf) (fa (kI kp_ild) (fa (kI kp_bin) (fa (kI kp_push) (fa (kI kp_ic) (fa (kI kp_ald) (fa (kI kp_push) (fa kC (fa kC (fa (kI kp_ald) (fa (kI kp_gf) (fa (kI kp_dup) (fa (kI kp_gf) (fa (kI kp_ild) (fa (kI kp_bin) (fa (kI kp_pf) (fa (kI kp_ald) (fa (kI kp_ald) (fa (kI kp_gf) (fa (kI kp_gf) (fa kC (fa kC f0)))))))))))))))))))))))))))))))))
set_option maxRecDepth 100000 in
set_option maxHeartbeats 4000000 in
theorem kp_C_share : ∀ (pc : Nat) (i : aIn), k_C_share pc = some i → KI pc i := lkl_ok (P := KI) (fa (kI kp_ild) (fa (kI kp_push) (fa (kI kp_ic) (fa (kI kp_ild) (fa (kI kp_push) (fa (kI kp_ic) (fa (kI kp_ald) (fa (kI kp_push) (fa kC (fa kC (fa (kI kp_ald) (fa (kI kp_gf) (fa (kI kp_gf) (fa (kI kp_ist) (fa (kI kp_ald) (fa (kI kp_gf) (fa (kI kp_ild) (fa (kI kp_pf) (fa (kI kp_ald) (fa (kI kp_ild) (fa kC (fa kC f0))))))))))))))))))))))
set_option maxRecDepth 100000 in
set_option maxHeartbeats 4000000 in
theorem kp_C_text : ∀ (pc : Nat) (i : aIn), k_C_text pc = some i → KI pc i := lkl_ok (P := KI) (fa (kI kp_ild) (fa kC (fa (kI kp_if) (fa (kI kp_ald) (fa (kI kp_push) (fa kC (fa kC (fa (kI kp_ald) (fa (kI kp_gf) (fa (kI kp_gf) (fa (kI kp_push) (fa (kI kp_ic) (fa (kI kp_ald) (fa (kI kp_push) (fa kC (fa kC (fa (kI kp_ald) (fa (kI kp_gf) (fa (kI kp_gf) (fa (kI kp_ald) (fa (kI kp_gf) (fa (kI kp_gf) (fa (kI kp_ild) (fa (kI kp_ias) (fa (kI kp_ald) (fa (kI kp_gf) (fa (kI kp_dup) (fa (kI kp_gf) (fa (kI kp_push) (fa (kI kp_bin) (fa (kI kp_pf) (fa (kI kp_ald) (fa (kI kp_ald) (fa (kI kp_gf) (fa (kI kp_gf) (fa kC (fa kC f0)))))))))))))))))))))))))))))))))))))
set_option maxRecDepth 100000 in
set_option maxHeartbeats 4000000 in
theorem kp_C_wipe : ∀ (pc : Nat) (i : aIn), k_C_wipe pc = some i → KI pc i := lkl_ok (P := KI) (fa (kI kp_ald) (fa (kI kp_gf) (fa (kI kp_gf) (fa (kI kp_ist) (fa (kI kp_ald) (fa (kI kp_gf) (fa (kI kp_push) (fa (kI kp_pf) (fa (kI kp_ald) (fa (kI kp_ild) (fa kC (fa kC f0))))))))))))
set_option maxRecDepth 100000 in
set_option maxHeartbeats 4000000 in
theorem kp_C_change_0 : ∀ (pc : Nat) (i : aIn), k_C_change_0 pc = some i → KI pc i := lkl_ok (P := KI) (fa (kI kp_ild) (fa (kI kp_push) (fa (kI kp_ic) (fa (kI kp_push) (fa (kI kp_go) (fa (kI kp_push) (fa (kI kp_ist) (fa (kI kp_ild) (fa (kI kp_if) (fa (kI kp_ild) (fa (kI kp_push) (fa (kI kp_ic) (fa (kI kp_ild) (fa (kI kp_push) (fa (kI kp_ic) (fa (kI kp_ald) (fa (kI kp_gf) (fa (kI kp_ild) (fa kC (fa (kI kp_nul) (fa (kI kp_ald) (fa (kI kp_gf) (fa (kI kp_ild) (fa kC (fa (kI kp_if) (fa (kI kp_ald) (fa (kI kp_push) (fa kC (fa kC (fa (kI kp_ild) (fa (kI kp_if) (fa (kI kp_ald) (fa (kI kp_gf) (fa (kI kp_ild) (fa kC (fa (kI kp_if) (fa (kI kp_ild) (fa (kI kp_ild) (fa (kI kp_ic) (fa (kI kp_ald) (fa (kI kp_push) (fa kC (fa kC (fa (kI kp_ald) (fa (kI kp_gf) (fa (kI kp_gf) (fa (kI kp_push) (fa (kI kp_ic) (fa (kI kp_ald) (fa (kI kp_push) f0))))))))))))))))))))))))))))))))))))))))))))))))))
set_option maxRecDepth 100000 in
set_option maxHeartbeats 4000000 in
theorem kp_C_change_1 : ∀ (pc : Nat) (i : aIn), k_C_change_1 pc = some i → KI pc i := lkl_ok (P := KI) (fa kC (fa kC (fa (kI kp_ald) (fa (kI kp_gf) (fa (kI kp_ild) (fa kC (fa (kI kp_if) (fa (kI kp_ild) (fa (kI kp_if) (fa (kI kp_ald) (fa (kI kp_gf) (fa (kI kp_ild) (fa kC (fa (kI kp_if) (fa (kI kp_ald) (fa (kI kp_push) (fa kC (fa kC (fa (kI kp_new) (fa (kI kp_dup) (fa (kI kp_ald) (fa (kI kp_gf) (fa (kI kp_ild) (fa (kI kp_ild) (fa (kI kp_ild) (fa (kI kp_ild) (fa (kI kp_if) (fa (kI kp_ild) (fa (kI kp_go) (fa (kI kp_push) (fa kC (fa (kI kp_ast) (fa (kI kp_ald) (fa (kI kp_gf) (fa (kI kp_ald) (fa (kI kp_ald) (fa (kI kp_gf) (fa (kI kp_gf) (fa (kI kp_ald) (fa (kI kp_gf) (fa (kI kp_gf) (fa kC (fa (kI kp_ast) (fa (kI kp_ald) (fa (kI kp_gf) (fa (kI kp_ald) (fa (kI kp_ald) (fa kC (fa (kI kp_ald) (fa (kI kp_gf) f0))))))))))))))))))))))))))))))))))))))))))))))))))
set_option maxRecDepth 100000 in
set_option maxHeartbeats 4000000 in
theorem kp_C_change_2 : ∀ (pc : Nat) (i : aIn), k_C_change_2 pc = some i → KI pc i := lkl_ok (P := KI) (fa (kI kp_push) (fa (kI kp_pf) (fa (kI kp_ald) (fa (kI kp_ald) (fa (kI kp_gf) (fa kC (fa kC f0)))))))
theorem kp_C_change : ∀ (pc : Nat) (i : aIn), k_C_change pc = some i → KI pc i := (lkb_ok (lkb_ok kp_C_change_2 kp_C_change_1) kp_C_change_0)
set_option maxRecDepth 100000 in
set_option maxHeartbeats 4000000 in
theorem kp_C_back : ∀ (pc : Nat) (i : aIn), k_C_back pc = some i → KI pc i := lkl_ok (P := KI) (fa (kI kp_ald) (fa (kI kp_gf) (fa (kI kp_ild) (fa kC (fa (kI kp_ast) (fa (kI kp_ald) (fa (kI kp_nul) (fa (kI kp_ald) (fa (kI kp_gf) (fa (kI kp_ild) (fa kC (fa (kI kp_if) (fa (kI kp_ald) (fa (kI kp_push) (fa kC (fa kC (fa (kI kp_ald) (fa (kI kp_gf) (fa (kI kp_gf) (fa (kI kp_push) (fa (kI kp_ic) (fa (kI kp_ald) (fa (kI kp_push) (fa kC (fa kC (fa (kI kp_ald) (fa (kI kp_gf) (fa (kI kp_ild) (fa kC (fa (kI kp_if) (fa (kI kp_ald) (fa (kI kp_push) (fa kC (fa kC (fa (kI kp_new) (fa (kI kp_dup) (fa (kI kp_ald) (fa (kI kp_gf) (fa (kI kp_push) (fa (kI kp_ald) (fa (kI kp_gf) (fa (kI kp_ild) (fa (kI kp_ild) (fa kC (fa (kI kp_ast) (fa (kI kp_ald) (fa (kI kp_ald) (fa (kI kp_gf) (fa kC (fa (kI kp_pf) (fa (kI kp_ald) (fa (kI kp_gf) (fa (kI kp_ald) (fa (kI kp_ald) (fa (kI kp_gf) (fa kC (fa (kI kp_ald) (fa (kI kp_ald) (fa (kI kp_gf) (fa kC (fa kC f0)))))))))))))))))))))))))))))))))))))))))))))))))))))))))))))
set_option maxRecDepth 100000 in
set_option maxHeartbeats 4000000 in
theorem kp_C_read : ∀ (pc : Nat) (i : aIn), k_C_read pc = some i → KI pc i := lkl_ok (P := KI) (fa (kI kp_ald) (fa (kI kp_gf) (fa (kI kp_ild) (fa kC (fa (kI kp_ast) (fa (kI kp_ald) (fa (kI kp_gf) (fa (kI kp_ild) (fa kC (fa (kI kp_if) (fa (kI kp_ald) (fa (kI kp_nul) (fa (kI kp_ild) (fa (kI kp_if) (fa (kI kp_ild) (fa (kI kp_ald) (fa kC (fa (kI kp_ic) (fa (kI kp_ild) (fa (kI kp_ild) (fa (kI kp_ic) (fa (kI kp_ald) (fa (kI kp_push) (fa kC (fa kC (fa (kI kp_ald) (fa (kI kp_gf) (fa (kI kp_ild) (fa kC (fa (kI kp_if) (fa (kI kp_ald) (fa (kI kp_push) (fa kC (fa kC (fa (kI kp_ald) (fa (kI kp_gf) (fa (kI kp_gf) (fa (kI kp_ild) (fa (kI kp_ald) (fa (kI kp_ild) (fa (kI kp_ald) (fa (kI kp_gf) (fa (kI kp_gf) (fa (kI kp_ild) (fa (kI kp_ild) (fa kC (fa (kI kp_ras) (fa (kI kp_ald) (fa (kI kp_ild) (fa (kI kp_ild) (fa (kI kp_bin) (fa (kI kp_push) (fa (kI kp_bin) (fa kC (fa kC f0)))))))))))))))))))))))))))))))))))))))))))))))))))))))
set_option maxRecDepth 100000 in
set_option maxHeartbeats 4000000 in
theorem kp_C_image : ∀ (pc : Nat) (i : aIn), k_C_image pc = some i → KI pc i := lkl_ok (P := KI) (fa (kI kp_ald) (fa (kI kp_gf) (fa (kI kp_ald) (fa (kI kp_gf) (fa kC (fa (kI kp_ald) (fa (kI kp_push) (fa (kI kp_pf) (fa (kI kp_ald) (fa (kI kp_push) (fa kC (fa kC f0))))))))))))
set_option maxRecDepth 100000 in
set_option maxHeartbeats 4000000 in
theorem kp_C_restore : ∀ (pc : Nat) (i : aIn), k_C_restore pc = some i → KI pc i := lkl_ok (P := KI) (fa (kI kp_ald) (fa (kI kp_gf) (fa (kI kp_push) (fa (kI kp_ic) (fa (kI kp_ald) (fa (kI kp_push) (fa kC (fa kC (fa (kI kp_ald) (fa (kI kp_gf) (fa (kI kp_if) (fa (kI kp_ald) (fa (kI kp_push) (fa kC (fa kC (fa (kI kp_ald) (fa (kI kp_gf) (fa (kI kp_ald) (fa (kI kp_gf) (fa kC (fa (kI kp_ald) (fa (kI kp_dup) (fa (kI kp_gf) (fa (kI kp_push) (fa (kI kp_bin) (fa (kI kp_pf) (fa (kI kp_ald) (fa (kI kp_ald) (fa (kI kp_gf) (fa (kI kp_gf) (fa kC (fa kC f0))))))))))))))))))))))))))))))))
set_option maxRecDepth 100000 in
set_option maxHeartbeats 4000000 in
theorem kp_C_lines : ∀ (pc : Nat) (i : aIn), k_C_lines pc = some i → KI pc i := lkl_ok (P := KI) (fa (kI kp_ald) (fa (kI kp_gf) (fa (kI kp_ild) (fa kC (fa (kI kp_ast) (fa (kI kp_ald) (fa (kI kp_nul) (fa (kI kp_push) (fa (kI kp_go) (fa (kI kp_ald) (fa kC (fa kC f0))))))))))))
set_option maxRecDepth 100000 in
set_option maxHeartbeats 4000000 in
theorem kp_C_line : ∀ (pc : Nat) (i : aIn), k_C_line pc = some i → KI pc i := lkl_ok (P := KI) (fa (kI kp_ald) (fa (kI kp_gf) (fa (kI kp_ild) (fa (kI kp_ild) (fa kC (fa (kI kp_ast) (fa (kI kp_ald) (fa (kI kp_nul) (fa (kI kp_push) (fa kC (fa (kI kp_ild) (fa (kI kp_sw) (fa (kI kp_ald) (fa (kI kp_gf) (fa kC (fa (kI kp_ald) (fa (kI kp_gf) (fa kC (fa (kI kp_ald) (fa kC (fa kC (fa (kI kp_push) (fa kC f0)))))))))))))))))))))))
set_option maxRecDepth 100000 in
set_option maxHeartbeats 4000000 in
theorem kp_C_mark : ∀ (pc : Nat) (i : aIn), k_C_mark pc = some i → KI pc i := lkl_ok (P := KI) (fa (kI kp_ald) (fa (kI kp_gf) (fa (kI kp_ild) (fa (kI kp_ild) (fa kC (fa (kI kp_ast) (fa (kI kp_ald) (fa (kI kp_nul) (fa (kI kp_push) (fa (kI kp_go) (fa (kI kp_ald) (fa (kI kp_ild) (fa (kI kp_ild) (fa kC (fa kC f0)))))))))))))))
set_option maxRecDepth 100000 in
set_option maxHeartbeats 4000000 in
theorem kp_C_changeTold : ∀ (pc : Nat) (i : aIn), k_C_changeTold pc = some i → KI pc i := lkl_ok (P := KI) (fa (kI kp_ald) (fa (kI kp_gf) (fa (kI kp_ild) (fa kC (fa (kI kp_ast) (fa (kI kp_ald) (fa (kI kp_nul) (fa (kI kp_push) (fa kC (fa (kI kp_ild) (fa (kI kp_sw) (fa (kI kp_ald) (fa (kI kp_gf) (fa kC (fa (kI kp_ald) (fa (kI kp_gf) (fa kC (fa (kI kp_ald) (fa (kI kp_gf) (fa kC (fa (kI kp_ald) (fa (kI kp_gf) (fa kC (fa (kI kp_ald) (fa (kI kp_gf) (fa kC (fa (kI kp_ald) (fa (kI kp_gf) (fa kC (fa (kI kp_ald) (fa (kI kp_gf) (fa kC (fa kC (fa (kI kp_ald) (fa (kI kp_gf) (fa (kI kp_ild) (fa kC (fa kC (fa (kI kp_push) (fa kC f0))))))))))))))))))))))))))))))))))))))))
set_option maxRecDepth 100000 in
set_option maxHeartbeats 4000000 in
theorem kp_C_points : ∀ (pc : Nat) (i : aIn), k_C_points pc = some i → KI pc i := lkl_ok (P := KI) (fa (kI kp_ald) (fa (kI kp_gf) (fa (kI kp_ild) (fa (kI kp_ild) (fa kC (fa (kI kp_ast) (fa (kI kp_ald) (fa (kI kp_nul) (fa (kI kp_ald) (fa (kI kp_gf) (fa (kI kp_ild) (fa kC (fa (kI kp_if) (fa (kI kp_push) (fa (kI kp_go) (fa (kI kp_ald) (fa (kI kp_ild) (fa (kI kp_ald) (fa (kI kp_gf) (fa (kI kp_gf) (fa (kI kp_push) (fa kC (fa kC f0)))))))))))))))))))))))
set_option maxRecDepth 100000 in
set_option maxHeartbeats 4000000 in
theorem kp_C_knows : ∀ (pc : Nat) (i : aIn), k_C_knows pc = some i → KI pc i := lkl_ok (P := KI) (fa (kI kp_ald) (fa (kI kp_gf) (fa (kI kp_ild) (fa kC (fa (kI kp_ast) (fa (kI kp_ald) (fa (kI kp_nul) (fa (kI kp_ald) (fa (kI kp_gf) (fa (kI kp_ild) (fa kC (fa (kI kp_if) (fa (kI kp_push) (fa (kI kp_go) (fa (kI kp_ald) (fa (kI kp_ild) (fa (kI kp_ald) (fa (kI kp_gf) (fa (kI kp_gf) (fa kC (fa kC f0)))))))))))))))))))))
set_option maxRecDepth 100000 in
set_option maxHeartbeats 4000000 in
theorem kp_C_able : ∀ (pc : Nat) (i : aIn), k_C_able pc = some i → KI pc i := lkl_ok (P := KI) (fa (kI kp_ald) (fa (kI kp_gf) (fa (kI kp_ild) (fa kC (fa (kI kp_ast) (fa (kI kp_ald) (fa (kI kp_nul) (fa (kI kp_ald) (fa (kI kp_gf) (fa (kI kp_ild) (fa kC (fa (kI kp_if) (fa (kI kp_push) (fa kC (fa (kI kp_ald) (fa (kI kp_gf) (fa (kI kp_ild) (fa (kI kp_ald) (fa kC (fa (kI kp_if) (fa (kI kp_push) (fa (kI kp_go) (fa (kI kp_push) (fa kC f0))))))))))))))))))))))))
set_option maxRecDepth 100000 in
set_option maxHeartbeats 4000000 in
theorem kp_C_lost : ∀ (pc : Nat) (i : aIn), k_C_lost pc = some i → KI pc i := lkl_ok (P := KI) (fa (kI kp_ild) (fa (kI kp_push) (fa (kI kp_ald) (fa (kI kp_gf) (fa (kI kp_gf) (fa (kI kp_bin) (fa (kI kp_bin) (fa (kI kp_if) (fa (kI kp_push) (fa kC (fa (kI kp_ald) (fa (kI kp_gf) (fa (kI kp_ald) (fa (kI kp_gf) (fa kC (fa (kI kp_ald) (fa (kI kp_gf) (fa (kI kp_ild) (fa kC (fa kC f0))))))))))))))))))))
set_option maxRecDepth 100000 in
set_option maxHeartbeats 4000000 in
theorem kp_C_lone : ∀ (pc : Nat) (i : aIn), k_C_lone pc = some i → KI pc i := lkl_ok (P := KI) (fa (kI kp_ild) (fa (kI kp_if) (fa (kI kp_ild) (fa (kI kp_push) (fa (kI kp_ic) (fa (kI kp_push) (fa kC (fa (kI kp_ald) (fa (kI kp_gf) (fa (kI kp_ald) (fa (kI kp_gf) (fa kC (fa (kI kp_ald) (fa (kI kp_gf) (fa (kI kp_push) (fa kC (fa (kI kp_ist) (fa (kI kp_push) (fa (kI kp_ist) (fa (kI kp_ild) (fa (kI kp_ild) (fa (kI kp_ic) (fa (kI kp_ild) (fa (kI kp_if) (fa (kI kp_ald) (fa (kI kp_gf) (fa (kI kp_ild) (fa kC (fa (kI kp_ist) (fa (kI kp_inc) (fa (kI kp_go) (fa (kI kp_ild) (fa (kI kp_if) (fa (kI kp_push) (fa (kI kp_go) (fa (kI kp_ild) (fa kC f0)))))))))))))))))))))))))))))))))))))
set_option maxRecDepth 100000 in
set_option maxHeartbeats 4000000 in
theorem kp_C_cover : ∀ (pc : Nat) (i : aIn), k_C_cover pc = some i → KI pc i := lkl_ok (P := KI) (fa (kI kp_ald) (fa (kI kp_gf) (fa (kI kp_ald) (fa (kI kp_gf) (fa kC (fa (kI kp_ald) (fa (kI kp_gf) (fa (kI kp_ald) (fa (kI kp_gf) (fa (kI kp_gf) (fa kC (fa kC f0))))))))))))
set_option maxRecDepth 100000 in
set_option maxHeartbeats 4000000 in
theorem kp_C_plan : ∀ (pc : Nat) (i : aIn), k_C_plan pc = some i → KI pc i := lkl_ok (P := KI) (fa (kI kp_ild) (fa (kI kp_push) (fa (kI kp_ic) (fa (kI kp_ild) (fa (kI kp_push) (fa (kI kp_ic) (fa (kI kp_ild) (fa (kI kp_push) (fa (kI kp_ic) (fa (kI kp_ild) (fa (kI kp_ald) (fa (kI kp_gf) (fa (kI kp_gf) (fa (kI kp_ic) (fa (kI kp_push) (fa kC (fa (kI kp_ald) (fa (kI kp_gf) (fa (kI kp_ald) (fa (kI kp_gf) (fa kC (fa (kI kp_ald) (fa (kI kp_gf) (fa (kI kp_ald) (fa (kI kp_gf) (fa (kI kp_ald) (fa (kI kp_gf) (fa (kI kp_ild) (fa kC (fa (kI kp_if) (fa (kI kp_push) (fa kC (fa (kI kp_ild) (fa (kI kp_push) (fa (kI kp_ic) (fa (kI kp_ald) (fa (kI kp_gf) (fa (kI kp_gf) (fa (kI kp_go) (fa (kI kp_ald) (fa (kI kp_gf) (fa (kI kp_gf) (fa (kI kp_ild) (fa (kI kp_ia) (fa kC f0)))))))))))))))))))))))))))))))))))))))))))))
set_option maxRecDepth 100000 in
set_option maxHeartbeats 4000000 in
theorem kp_C_sum : ∀ (pc : Nat) (i : aIn), k_C_sum pc = some i → KI pc i := lkl_ok (P := KI) (fa (kI kp_ald) (fa (kI kp_gf) (fa (kI kp_ild) (fa kC (fa (kI kp_if) (fa (kI kp_ild) (fa (kI kp_push) (fa (kI kp_ic) (fa (kI kp_ald) (fa (kI kp_gf) (fa (kI kp_ild) (fa kC (fa (kI kp_nul) (fa (kI kp_push) (fa kC (fa (kI kp_push) (fa (kI kp_ist) (fa (kI kp_push) (fa (kI kp_ist) (fa (kI kp_ild) (fa (kI kp_push) (fa (kI kp_ic) (fa (kI kp_ild) (fa (kI kp_push) (fa (kI kp_ic) (fa (kI kp_ild) (fa (kI kp_ild) (fa (kI kp_ic) (fa (kI kp_ild) (fa (kI kp_ald) (fa (kI kp_gf) (fa (kI kp_ild) (fa (kI kp_ald) (fa (kI kp_gf) (fa (kI kp_gf) (fa (kI kp_ild) (fa (kI kp_ra) (fa kC (fa (kI kp_bin) (fa (kI kp_ist) (fa (kI kp_inc) (fa (kI kp_go) (fa (kI kp_ild) (fa kC f0))))))))))))))))))))))))))))))))))))))))))))
set_option maxRecDepth 100000 in
set_option maxHeartbeats 4000000 in
theorem kp_C_count : ∀ (pc : Nat) (i : aIn), k_C_count pc = some i → KI pc i := lkl_ok (P := KI) (fa (kI kp_ild) (fa (kI kp_sw) (fa (kI kp_ald) (fa (kI kp_gf) (fa (kI kp_gf) (fa kC (fa (kI kp_ald) (fa (kI kp_gf) (fa (kI kp_gf) (fa kC (fa (kI kp_ald) (fa (kI kp_gf) (fa (kI kp_gf) (fa kC (fa (kI kp_ald) (fa (kI kp_gf) (fa (kI kp_gf) (fa kC (fa (kI kp_ald) (fa (kI kp_gf) (fa (kI kp_gf) (fa kC (fa (kI kp_ald) (fa (kI kp_gf) (fa (kI kp_gf) (fa kC (fa kC (fa (kI kp_ald) (fa kC (fa kC (fa (kI kp_ald) (fa (kI kp_gf) (fa (kI kp_gf) (fa kC (fa (kI kp_push) (fa kC f0))))))))))))))))))))))))))))))))))))
set_option maxRecDepth 100000 in
set_option maxHeartbeats 4000000 in
theorem kp_C_act : ∀ (pc : Nat) (i : aIn), k_C_act pc = some i → KI pc i := lkl_ok (P := KI) (fa (kI kp_ald) (fa (kI kp_gf) (fa (kI kp_ild) (fa kC (fa (kI kp_ast) (fa (kI kp_ald) (fa (kI kp_nul) (fa (kI kp_ild) (fa (kI kp_if) (fa (kI kp_ild) (fa (kI kp_push) (fa (kI kp_ic) (fa (kI kp_ald) (fa (kI kp_push) (fa kC (fa kC (fa (kI kp_ald) (fa (kI kp_ald) (fa (kI kp_gf) (fa (kI kp_ald) (fa (kI kp_ild) (fa (kI kp_ild) (fa kC (fa kC (fa kC f0)))))))))))))))))))))))))
set_option maxRecDepth 100000 in
set_option maxHeartbeats 4000000 in
theorem kp_C_trace : ∀ (pc : Nat) (i : aIn), k_C_trace pc = some i → KI pc i := lkl_ok (P := KI) (fa (kI kp_ild) (fa (kI kp_if) (fa (kI kp_ild) (fa (kI kp_ald) (fa (kI kp_gf) (fa (kI kp_gf) (fa (kI kp_ic) (fa (kI kp_push) (fa (kI kp_go) (fa (kI kp_ald) (fa (kI kp_gf) (fa (kI kp_gf) (fa (kI kp_ild) (fa (kI kp_ia) (fa kC f0)))))))))))))))
set_option maxRecDepth 100000 in
set_option maxHeartbeats 4000000 in
theorem kp_C_sheet : ∀ (pc : Nat) (i : aIn), k_C_sheet pc = some i → KI pc i := lkl_ok (P := KI) (fa (kI kp_ald) (fa (kI kp_ild) (fa kC (fa (kI kp_ast) (fa (kI kp_ald) (fa (kI kp_nul) (fa (kI kp_ild) (fa (kI kp_push) (fa (kI kp_ic) (fa (kI kp_ild) (fa (kI kp_push) (fa (kI kp_ic) (fa (kI kp_ald) (fa (kI kp_push) (fa kC (fa kC (fa (kI kp_ild) (fa (kI kp_push) (fa (kI kp_ic) (fa (kI kp_ild) (fa (kI kp_if) (fa (kI kp_ild) (fa (kI kp_push) (fa (kI kp_ic) (fa (kI kp_ald) (fa (kI kp_push) (fa kC (fa kC (fa (kI kp_ald) (fa (kI kp_ild) (fa (kI kp_ild) (fa (kI kp_push) (fa (kI kp_ic) (fa (kI kp_push) (fa (kI kp_go) (fa (kI kp_ild) (fa kC (fa (kI kp_ald) (fa (kI kp_push) (fa kC (fa kC f0)))))))))))))))))))))))))))))))))))))))))
set_option maxRecDepth 100000 in
set_option maxHeartbeats 4000000 in
theorem kp_C_cell : ∀ (pc : Nat) (i : aIn), k_C_cell pc = some i → KI pc i := lkl_ok (P := KI) (fa (kI kp_ald) (fa (kI kp_ild) (fa kC (fa (kI kp_ast) (fa (kI kp_ald) (fa (kI kp_nul) (fa (kI kp_ild) (fa (kI kp_push) (fa (kI kp_ic) (fa (kI kp_ild) (fa (kI kp_push) (fa (kI kp_ic) (fa (kI kp_ald) (fa (kI kp_push) (fa kC (fa kC (fa (kI kp_ald) (fa (kI kp_gf) (fa (kI kp_push) (fa (kI kp_ic) (fa (kI kp_ald) (fa (kI kp_push) (fa kC (fa kC (fa (kI kp_ild) (fa (kI kp_if) (fa (kI kp_ild) (fa (kI kp_ald) (fa (kI kp_gf) (fa (kI kp_ic) (fa (kI kp_ald) (fa (kI kp_push) (fa kC (fa kC (fa (kI kp_ald) (fa (kI kp_gf) (fa (kI kp_ild) (fa (kI kp_ald) (fa (kI kp_gf) (fa (kI kp_if) (fa (kI kp_ild) (fa (kI kp_i2b) (fa (kI kp_go) (fa (kI kp_ild) (fa (kI kp_ias) (fa (kI kp_ald) (fa (kI kp_push) (fa kC (fa kC f0)))))))))))))))))))))))))))))))))))))))))))))))))
set_option maxRecDepth 100000 in
set_option maxHeartbeats 4000000 in
theorem kp_C_come : ∀ (pc : Nat) (i : aIn), k_C_come pc = some i → KI pc i := lkl_ok (P := KI) (fa (kI kp_ald) (fa (kI kp_ild) (fa kC (fa (kI kp_ast) (fa (kI kp_ald) (fa (kI kp_nul) (fa (kI kp_ild) (fa (kI kp_if) (fa (kI kp_ild) (fa (kI kp_push) (fa (kI kp_ic) (fa (kI kp_ald) (fa (kI kp_push) (fa kC (fa kC (fa (kI kp_ald) (fa (kI kp_gf) (fa (kI kp_push) (fa (kI kp_ic) (fa (kI kp_ald) (fa (kI kp_push) (fa kC (fa kC (fa (kI kp_ald) (fa (kI kp_gf) (fa (kI kp_ild) (fa (kI kp_ic) (fa (kI kp_ald) (fa (kI kp_push) (fa kC (fa kC (fa (kI kp_ald) (fa (kI kp_gf) (fa (kI kp_push) (fa (kI kp_ic) (fa (kI kp_ald) (fa (kI kp_push) (fa kC (fa kC (fa (kI kp_ald) (fa kC (fa (kI kp_if) (fa (kI kp_ald) (fa (kI kp_push) (fa kC (fa kC (fa (kI kp_ald) (fa (kI kp_gf) (fa (kI kp_push) (fa (kI kp_ald) (fa (kI kp_gf) (fa (kI kp_gf) (fa (kI kp_push) (fa (kI kp_ald) (fa (kI kp_gf) (fa (kI kp_cpy) (fa (kI kp_ald) (fa (kI kp_gf) (fa (kI kp_ald) (fa (kI kp_gf) (fa (kI kp_pf) (fa (kI kp_ald) (fa (kI kp_ald) (fa (kI kp_gf) (fa (kI kp_gf) (fa kC (fa kC f0)))))))))))))))))))))))))))))))))))))))))))))))))))))))))))))))))))
set_option maxRecDepth 100000 in
set_option maxHeartbeats 4000000 in
theorem kp_C_forge_0 : ∀ (pc : Nat) (i : aIn), k_C_forge_0 pc = some i → KI pc i := lkl_ok (P := KI) (fa (kI kp_ild) (fa (kI kp_push) (fa (kI kp_ic) (fa (kI kp_ild) (fa (kI kp_push) (fa (kI kp_ic) (fa (kI kp_ild) (fa (kI kp_push) (fa (kI kp_ic) (fa (kI kp_ild) (fa (kI kp_push) (fa (kI kp_ic) (fa (kI kp_ald) (fa (kI kp_push) (fa kC (fa kC (fa (kI kp_ild) (fa (kI kp_sw) (fa (kI kp_ald) (fa (kI kp_ald) (fa (kI kp_gf) (fa (kI kp_ild) (fa (kI kp_push) (fa kC (fa kC (fa (kI kp_ild) (fa (kI kp_push) (fa kC (fa kC (fa kC (fa (kI kp_ild) (fa (kI kp_if) (fa (kI kp_ald) (fa (kI kp_push) (fa kC (fa (kI kp_go) (fa (kI kp_ald) (fa (kI kp_ild) (fa kC (fa kC (fa (kI kp_ald) (fa (kI kp_ald) (fa (kI kp_ild) (fa (kI kp_push) (fa kC (fa kC (fa (kI kp_ild) (fa kC (fa kC (fa (kI kp_ald) f0))))))))))))))))))))))))))))))))))))))))))))))))))
set_option maxRecDepth 100000 in
set_option maxHeartbeats 4000000 in
theorem kp_C_forge_1 : ∀ (pc : Nat) (i : aIn), k_C_forge_1 pc = some i → KI pc i := lkl_ok (P := KI) (fa (kI kp_ald) (fa (kI kp_ild) (fa (kI kp_push) (fa kC (fa kC (fa (kI kp_ild) (fa kC (fa kC (fa (kI kp_ald) (fa (kI kp_ald) (fa (kI kp_gf) (fa (kI kp_ild) (fa (kI kp_push) (fa kC (fa kC (fa kC (fa kC (fa (kI kp_ild) (fa (kI kp_if) (fa (kI kp_ald) (fa (kI kp_push) (fa kC (fa (kI kp_go) (fa (kI kp_ald) (fa (kI kp_push) (fa (kI kp_ild) (fa (kI kp_div) (fa kC (fa kC (fa (kI kp_ild) (fa (kI kp_push) (fa kC (fa (kI kp_if) (fa (kI kp_ald) (fa (kI kp_push) (fa kC (fa (kI kp_go) (fa (kI kp_ald) (fa (kI kp_push) (fa kC (fa kC (fa (kI kp_ald) (fa (kI kp_push) (fa kC (fa kC f0)))))))))))))))))))))))))))))))))))))))))))))
theorem kp_C_forge : ∀ (pc : Nat) (i : aIn), k_C_forge pc = some i → KI pc i := (lkb_ok kp_C_forge_1 kp_C_forge_0)
set_option maxRecDepth 100000 in
set_option maxHeartbeats 4000000 in
theorem kp_C_status : ∀ (pc : Nat) (i : aIn), k_C_status pc = some i → KI pc i := lkl_ok (P := KI) (fa (kI kp_ald) (fa (kI kp_gf) (fa kC f0)))
set_option maxRecDepth 100000 in
set_option maxHeartbeats 4000000 in
theorem kp_C_done : ∀ (pc : Nat) (i : aIn), k_C_done pc = some i → KI pc i := lkl_ok (P := KI) (fa (kI kp_ald) (fa (kI kp_push) (fa (kI kp_pf) (fa (kI kp_ild) (fa kC f0)))))
set_option maxRecDepth 100000 in
set_option maxHeartbeats 4000000 in
theorem kp_C_refused : ∀ (pc : Nat) (i : aIn), k_C_refused pc = some i → KI pc i := lkl_ok (P := KI) (fa (kI kp_ald) (fa (kI kp_ild) (fa (kI kp_pf) (fa (kI kp_push) (fa kC f0)))))
set_option maxRecDepth 100000 in
set_option maxHeartbeats 4000000 in
theorem kp_C_sheetOf : ∀ (pc : Nat) (i : aIn), k_C_sheetOf pc = some i → KI pc i := lkl_ok (P := KI) (fa (kI kp_ild) (fa (kI kp_if) (fa (kI kp_ild) (fa (kI kp_push) (fa (kI kp_ic) (fa (kI kp_ald) (fa (kI kp_gf) (fa (kI kp_ild) (fa (kI kp_ra) (fa (kI kp_go) (fa (kI kp_push) (fa kC f0))))))))))))
set_option maxRecDepth 100000 in
set_option maxHeartbeats 4000000 in
theorem kp_C_countLone : ∀ (pc : Nat) (i : aIn), k_C_countLone pc = some i → KI pc i := lkl_ok (P := KI) (fa (kI kp_ald) (fa (kI kp_gf) (fa (kI kp_ald) (fa (kI kp_gf) (fa kC (fa (kI kp_push) (fa (kI kp_ist) (fa (kI kp_ald) (fa (kI kp_gf) (fa (kI kp_push) (fa kC (fa (kI kp_ist) (fa (kI kp_ild) (fa (kI kp_push) (fa (kI kp_ic) (fa (kI kp_ild) (fa (kI kp_if) (fa (kI kp_inc) (fa (kI kp_ald) (fa (kI kp_gf) (fa (kI kp_ild) (fa kC (fa (kI kp_ist) (fa (kI kp_go) (fa (kI kp_ild) (fa kC f0))))))))))))))))))))))))))
set_option maxRecDepth 100000 in
set_option maxHeartbeats 4000000 in
theorem kp_C_takeForKind : ∀ (pc : Nat) (i : aIn), k_C_takeForKind pc = some i → KI pc i := lkl_ok (P := KI) (fa (kI kp_ald) (fa (kI kp_nul) (fa (kI kp_ald) (fa (kI kp_push) (fa kC (fa kC (fa (kI kp_ald) (fa (kI kp_gf) (fa (kI kp_ild) (fa kC (fa (kI kp_if) (fa (kI kp_ald) (fa (kI kp_ald) (fa (kI kp_gf) (fa kC (fa (kI kp_go) (fa (kI kp_ald) (fa (kI kp_push) (fa kC (fa kC f0))))))))))))))))))))
set_option maxRecDepth 100000 in
set_option maxHeartbeats 4000000 in
theorem kp_C_takeNumber : ∀ (pc : Nat) (i : aIn), k_C_takeNumber pc = some i → KI pc i := lkl_ok (P := KI) (fa (kI kp_ald) (fa (kI kp_nul) (fa (kI kp_ald) (fa (kI kp_gf) (fa (kI kp_push) (fa (kI kp_ic) (fa (kI kp_ald) (fa (kI kp_push) (fa kC (fa kC (fa (kI kp_ald) (fa (kI kp_gf) (fa (kI kp_push) (fa (kI kp_ic) (fa (kI kp_ald) (fa (kI kp_push) (fa kC (fa kC (fa (kI kp_ild) (fa (kI kp_if) (fa (kI kp_ild) (fa (kI kp_ald) (fa (kI kp_gf) (fa (kI kp_ic) (fa (kI kp_ald) (fa (kI kp_push) (fa kC (fa (kI kp_go) (fa (kI kp_ald) (fa (kI kp_ald) (fa (kI kp_gf) (fa (kI kp_ild) (fa (kI kp_ia) (fa kC (fa kC f0)))))))))))))))))))))))))))))))))))
set_option maxRecDepth 100000 in
set_option maxHeartbeats 4000000 in
theorem kp_C_copyNumbers : ∀ (pc : Nat) (i : aIn), k_C_copyNumbers pc = some i → KI pc i := lkl_ok (P := KI) (fa (kI kp_ald) (fa (kI kp_nul) (fa (kI kp_ald) (fa (kI kp_gf) (fa (kI kp_push) (fa (kI kp_ic) (fa (kI kp_ald) (fa (kI kp_push) (fa kC (fa kC (fa (kI kp_ald) (fa (kI kp_gf) (fa (kI kp_if) (fa (kI kp_ald) (fa (kI kp_push) (fa kC (fa kC (fa (kI kp_ild) (fa (kI kp_if) (fa (kI kp_push) (fa (kI kp_ild) (fa (kI kp_bin) (fa (kI kp_ald) (fa (kI kp_gf) (fa (kI kp_ic) (fa (kI kp_ild) (fa (kI kp_ild) (fa (kI kp_bin) (fa (kI kp_push) (fa (kI kp_ic) (fa (kI kp_ald) (fa (kI kp_push) (fa kC (fa kC (fa (kI kp_push) (fa (kI kp_ist) (fa (kI kp_push) (fa (kI kp_ist) (fa (kI kp_ild) (fa (kI kp_ild) (fa (kI kp_ic) (fa (kI kp_ild) (fa (kI kp_ald) (fa (kI kp_gf) (fa (kI kp_ild) (fa (kI kp_ia) (fa (kI kp_bin) (fa (kI kp_ist) (fa (kI kp_inc) (fa (kI kp_go) (fa (kI kp_ald) (fa (kI kp_ild) (fa kC (fa kC f0))))))))))))))))))))))))))))))))))))))))))))))))))))))
set_option maxRecDepth 100000 in
set_option maxHeartbeats 4000000 in
theorem kp_C_putAmongFormed : ∀ (pc : Nat) (i : aIn), k_C_putAmongFormed pc = some i → KI pc i := lkl_ok (P := KI) (fa (kI kp_ald) (fa (kI kp_nul) (fa (kI kp_ald) (fa (kI kp_push) (fa kC (fa kC (fa (kI kp_ald) (fa (kI kp_gf) (fa (kI kp_push) (fa kC (fa (kI kp_if) (fa (kI kp_ald) (fa (kI kp_ald) (fa (kI kp_gf) (fa kC (fa (kI kp_go) (fa (kI kp_ald) (fa (kI kp_push) (fa kC (fa kC f0))))))))))))))))))))
set_option maxRecDepth 100000 in
set_option maxHeartbeats 4000000 in
theorem kp_C_isText : ∀ (pc : Nat) (i : aIn), k_C_isText pc = some i → KI pc i := lkl_ok (P := KI) (fa (kI kp_ild) (fa (kI kp_push) (fa (kI kp_ic) (fa (kI kp_ild) (fa (kI kp_push) (fa (kI kp_ic) (fa (kI kp_push) (fa (kI kp_go) (fa (kI kp_push) (fa kC f0))))))))))
set_option maxRecDepth 100000 in
set_option maxHeartbeats 4000000 in
theorem kp_C_isUnder : ∀ (pc : Nat) (i : aIn), k_C_isUnder pc = some i → KI pc i := lkl_ok (P := KI) (fa (kI kp_ild) (fa (kI kp_ist) (fa (kI kp_push) (fa (kI kp_ist) (fa (kI kp_ild) (fa (kI kp_push) (fa (kI kp_ic) (fa (kI kp_ild) (fa (kI kp_if) (fa (kI kp_ild) (fa (kI kp_push) (fa (kI kp_ic) (fa (kI kp_ild) (fa (kI kp_ild) (fa (kI kp_ic) (fa (kI kp_push) (fa kC (fa (kI kp_gs) (fa (kI kp_ild) (fa (kI kp_ia) (fa (kI kp_ist) (fa (kI kp_inc) (fa (kI kp_go) (fa (kI kp_push) (fa kC f0)))))))))))))))))))))))))
set_option maxRecDepth 100000 in
set_option maxHeartbeats 4000000 in
theorem kp_R_init_0 : ∀ (pc : Nat) (i : aIn), k_R_init_0 pc = some i → KI pc i := lkl_ok (P := KI) (fa (kI kp_ald) (fa (kI kp_oi) (fa (kI kp_ald) (fa (kI kp_push) (fa (kI kp_nai) (fa (kI kp_pf) (fa (kI kp_ald) (fa (kI kp_push) (fa (kI kp_nai) (fa (kI kp_pf) (fa (kI kp_ald) (fa (kI kp_push) (fa (kI kp_nai) (fa (kI kp_pf) (fa (kI kp_ald) (fa (kI kp_push) (fa (kI kp_nai) (fa (kI kp_pf) (fa (kI kp_ald) (fa (kI kp_push) (fa (kI kp_nai) (fa (kI kp_pf) (fa (kI kp_ald) (fa (kI kp_push) (fa (kI kp_nai) (fa (kI kp_pf) (fa (kI kp_ald) (fa (kI kp_push) (fa (kI kp_nai) (fa (kI kp_pf) (fa (kI kp_ald) (fa (kI kp_push) (fa (kI kp_nai) (fa (kI kp_pf) (fa (kI kp_ald) (fa (kI kp_push) (fa (kI kp_nai) (fa (kI kp_pf) (fa (kI kp_ald) (fa (kI kp_push) (fa (kI kp_nai) (fa (kI kp_pf) (fa (kI kp_ald) (fa (kI kp_push) (fa (kI kp_nai) (fa (kI kp_pf) (fa (kI kp_ald) (fa (kI kp_push) (fa (kI kp_nai) (fa (kI kp_pf) f0))))))))))))))))))))))))))))))))))))))))))))))))))
set_option maxRecDepth 100000 in
set_option maxHeartbeats 4000000 in
theorem kp_R_init_1 : ∀ (pc : Nat) (i : aIn), k_R_init_1 pc = some i → KI pc i := lkl_ok (P := KI) (fa (kI kp_ald) (fa (kI kp_push) (fa (kI kp_nai) (fa (kI kp_pf) (fa (kI kp_ald) (fa (kI kp_push) (fa (kI kp_nai) (fa (kI kp_pf) (fa (kI kp_ald) (fa (kI kp_push) (fa (kI kp_nai) (fa (kI kp_dup) (fa (kI kp_push) (fa (kI kp_push) (fa (kI kp_ias) (fa (kI kp_dup) (fa (kI kp_push) (fa (kI kp_push) (fa (kI kp_ias) (fa (kI kp_dup) (fa (kI kp_push) (fa (kI kp_push) (fa (kI kp_ias) (fa (kI kp_dup) (fa (kI kp_push) (fa (kI kp_push) (fa (kI kp_ias) (fa (kI kp_dup) (fa (kI kp_push) (fa (kI kp_push) (fa (kI kp_ias) (fa (kI kp_dup) (fa (kI kp_push) (fa (kI kp_push) (fa (kI kp_ias) (fa (kI kp_pf) (fa (kI kp_ald) (fa (kI kp_push) (fa (kI kp_nai) (fa (kI kp_pf) (fa (kI kp_ald) (fa (kI kp_push) (fa (kI kp_nai) (fa (kI kp_pf) (fa (kI kp_ald) (fa (kI kp_push) (fa (kI kp_nai) (fa (kI kp_pf) (fa (kI kp_ald) (fa (kI kp_push) f0))))))))))))))))))))))))))))))))))))))))))))))))))
set_option maxRecDepth 100000 in
set_option maxHeartbeats 4000000 in
theorem kp_R_init_2 : ∀ (pc : Nat) (i : aIn), k_R_init_2 pc = some i → KI pc i := lkl_ok (P := KI) (fa (kI kp_nai) (fa (kI kp_pf) (fa (kI kp_ald) (fa (kI kp_push) (fa (kI kp_nai) (fa (kI kp_pf) (fa (kI kp_ald) (fa (kI kp_push) (fa (kI kp_nai) (fa (kI kp_pf) (fa (kI kp_ald) (fa (kI kp_push) (fa (kI kp_nai) (fa (kI kp_dup) (fa (kI kp_push) (fa (kI kp_push) (fa (kI kp_ias) (fa (kI kp_dup) (fa (kI kp_push) (fa (kI kp_push) (fa (kI kp_ias) (fa (kI kp_dup) (fa (kI kp_push) (fa (kI kp_push) (fa (kI kp_ias) (fa (kI kp_dup) (fa (kI kp_push) (fa (kI kp_push) (fa (kI kp_ias) (fa (kI kp_dup) (fa (kI kp_push) (fa (kI kp_push) (fa (kI kp_ias) (fa (kI kp_dup) (fa (kI kp_push) (fa (kI kp_push) (fa (kI kp_ias) (fa (kI kp_pf) (fa (kI kp_ald) (fa (kI kp_push) (fa (kI kp_nai) (fa (kI kp_pf) (fa (kI kp_ald) (fa (kI kp_push) (fa (kI kp_nai) (fa (kI kp_pf) (fa (kI kp_ald) (fa (kI kp_push) (fa (kI kp_nai) (fa (kI kp_pf) f0))))))))))))))))))))))))))))))))))))))))))))))))))
set_option maxRecDepth 100000 in
set_option maxHeartbeats 4000000 in
theorem kp_R_init_3 : ∀ (pc : Nat) (i : aIn), k_R_init_3 pc = some i → KI pc i := lkl_ok (P := KI) (fa (kI kp_ald) (fa (kI kp_push) (fa (kI kp_nai) (fa (kI kp_pf) (fa kC f0)))))
theorem kp_R_init : ∀ (pc : Nat) (i : aIn), k_R_init pc = some i → KI pc i := (lkb_ok (lkb_ok kp_R_init_3 kp_R_init_2) (lkb_ok kp_R_init_1 kp_R_init_0))
set_option maxRecDepth 100000 in
set_option maxHeartbeats 4000000 in
theorem kp_R_isIn : ∀ (pc : Nat) (i : aIn), k_R_isIn pc = some i → KI pc i := lkl_ok (P := KI) (fa (kI kp_lld) (fa (kI kp_lld) (fa (kI kp_lcmp) (fa (kI kp_if) (fa (kI kp_lld) (fa (kI kp_lld) (fa (kI kp_lcmp) (fa (kI kp_if) (fa (kI kp_push) (fa (kI kp_go) (fa (kI kp_push) (fa kC f0))))))))))))
set_option maxRecDepth 100000 in
set_option maxHeartbeats 4000000 in
theorem kp_R_refused : ∀ (pc : Nat) (i : aIn), k_R_refused pc = some i → KI pc i := lkl_ok (P := KI) (fa (kI kp_ald) (fa (kI kp_ild) (fa (kI kp_pf) (fa (kI kp_push) (fa kC f0)))))
set_option maxRecDepth 100000 in
set_option maxHeartbeats 4000000 in
theorem kp_R_done : ∀ (pc : Nat) (i : aIn), k_R_done pc = some i → KI pc i := lkl_ok (P := KI) (fa (kI kp_ald) (fa (kI kp_push) (fa (kI kp_pf) (fa (kI kp_ild) (fa kC f0)))))
set_option maxRecDepth 100000 in
set_option maxHeartbeats 4000000 in
theorem kp_R_isPerson : ∀ (pc : Nat) (i : aIn), k_R_isPerson pc = some i → KI pc i := lkl_ok (P := KI) (fa (kI kp_ild) (fa (kI kp_if) (fa (kI kp_ild) (fa (kI kp_ald) (fa (kI kp_gf) (fa (kI kp_push) (fa (kI kp_ia) (fa (kI kp_ic) (fa (kI kp_push) (fa (kI kp_go) (fa (kI kp_push) (fa kC f0))))))))))))
set_option maxRecDepth 100000 in
set_option maxHeartbeats 4000000 in
theorem kp_R_isFile : ∀ (pc : Nat) (i : aIn), k_R_isFile pc = some i → KI pc i := lkl_ok (P := KI) (fa (kI kp_ild) (fa (kI kp_if) (fa (kI kp_ild) (fa (kI kp_push) (fa (kI kp_ic) (fa (kI kp_push) (fa (kI kp_go) (fa (kI kp_push) (fa kC f0)))))))))
set_option maxRecDepth 100000 in
set_option maxHeartbeats 4000000 in
theorem kp_R_isLine : ∀ (pc : Nat) (i : aIn), k_R_isLine pc = some i → KI pc i := lkl_ok (P := KI) (fa (kI kp_ild) (fa kC (fa (kI kp_if) (fa (kI kp_ild) (fa (kI kp_if) (fa (kI kp_ild) (fa (kI kp_ald) (fa (kI kp_gf) (fa (kI kp_ild) (fa (kI kp_ia) (fa (kI kp_ic) (fa (kI kp_push) (fa (kI kp_go) (fa (kI kp_push) (fa kC f0)))))))))))))))
set_option maxRecDepth 100000 in
set_option maxHeartbeats 4000000 in
theorem kp_R_isChange : ∀ (pc : Nat) (i : aIn), k_R_isChange pc = some i → KI pc i := lkl_ok (P := KI) (fa (kI kp_ild) (fa (kI kp_if) (fa (kI kp_ild) (fa (kI kp_ald) (fa (kI kp_gf) (fa (kI kp_push) (fa (kI kp_ia) (fa (kI kp_ic) (fa (kI kp_push) (fa (kI kp_go) (fa (kI kp_push) (fa kC f0))))))))))))
set_option maxRecDepth 100000 in
set_option maxHeartbeats 4000000 in
theorem kp_R_isHere : ∀ (pc : Nat) (i : aIn), k_R_isHere pc = some i → KI pc i := lkl_ok (P := KI) (fa (kI kp_ald) (fa (kI kp_gf) (fa (kI kp_push) (fa (kI kp_ia) (fa (kI kp_ild) (fa (kI kp_bin) (fa (kI kp_push) (fa (kI kp_bin) (fa (kI kp_push) (fa (kI kp_ic) (fa (kI kp_push) (fa (kI kp_go) (fa (kI kp_push) (fa kC f0))))))))))))))
set_option maxRecDepth 100000 in
set_option maxHeartbeats 4000000 in
theorem kp_R_person : ∀ (pc : Nat) (i : aIn), k_R_person pc = some i → KI pc i := lkl_ok (P := KI) (fa (kI kp_ild) (fa (kI kp_i2l) (fa (kI kp_push) (fa (kI kp_push) (fa kC (fa (kI kp_if) (fa (kI kp_ald) (fa (kI kp_push) (fa kC (fa kC (fa (kI kp_ald) (fa (kI kp_gf) (fa (kI kp_push) (fa (kI kp_ia) (fa (kI kp_push) (fa (kI kp_ic) (fa (kI kp_ald) (fa (kI kp_push) (fa kC (fa kC (fa (kI kp_ald) (fa (kI kp_gf) (fa (kI kp_push) (fa (kI kp_ia) (fa (kI kp_ist) (fa (kI kp_ald) (fa (kI kp_gf) (fa (kI kp_ild) (fa (kI kp_ild) (fa (kI kp_ias) (fa (kI kp_ald) (fa (kI kp_gf) (fa (kI kp_push) (fa (kI kp_dup2) (fa (kI kp_ia) (fa (kI kp_push) (fa (kI kp_bin) (fa (kI kp_ias) (fa (kI kp_ald) (fa (kI kp_gf) (fa (kI kp_push) (fa (kI kp_dup2) (fa (kI kp_ia) (fa (kI kp_push) (fa (kI kp_ild) (fa (kI kp_bin) (fa (kI kp_bin) (fa (kI kp_ias) (fa (kI kp_ald) (fa (kI kp_ild) (fa kC (fa kC f0))))))))))))))))))))))))))))))))))))))))))))))))))))
set_option maxRecDepth 100000 in
set_option maxHeartbeats 4000000 in
theorem kp_R_here : ∀ (pc : Nat) (i : aIn), k_R_here pc = some i → KI pc i := lkl_ok (P := KI) (fa (kI kp_ald) (fa (kI kp_ild) (fa kC (fa (kI kp_if) (fa (kI kp_ald) (fa (kI kp_push) (fa kC (fa kC (fa (kI kp_ald) (fa (kI kp_ild) (fa kC (fa (kI kp_ild) (fa (kI kp_ic) (fa (kI kp_push) (fa (kI kp_go) (fa (kI kp_push) (fa (kI kp_ist) (fa (kI kp_ild) (fa (kI kp_if) (fa (kI kp_ald) (fa (kI kp_gf) (fa (kI kp_push) (fa (kI kp_dup2) (fa (kI kp_ia) (fa (kI kp_push) (fa (kI kp_ild) (fa (kI kp_bin) (fa (kI kp_bin) (fa (kI kp_ias) (fa (kI kp_ald) (fa (kI kp_ild) (fa (kI kp_if) (fa (kI kp_push) (fa (kI kp_go) (fa (kI kp_push) (fa kC (fa kC f0)))))))))))))))))))))))))))))))))))))
set_option maxRecDepth 100000 in
set_option maxHeartbeats 4000000 in
theorem kp_R_day : ∀ (pc : Nat) (i : aIn), k_R_day pc = some i → KI pc i := lkl_ok (P := KI) (fa (kI kp_ild) (fa (kI kp_i2l) (fa (kI kp_push) (fa (kI kp_push) (fa kC (fa (kI kp_if) (fa (kI kp_ald) (fa (kI kp_push) (fa kC (fa kC (fa (kI kp_ald) (fa (kI kp_gf) (fa (kI kp_push) (fa (kI kp_ia) (fa (kI kp_ild) (fa (kI kp_bin) (fa (kI kp_push) (fa (kI kp_ic) (fa (kI kp_ald) (fa (kI kp_push) (fa kC (fa kC (fa (kI kp_ald) (fa (kI kp_gf) (fa (kI kp_push) (fa (kI kp_dup2) (fa (kI kp_ia) (fa (kI kp_ild) (fa (kI kp_bin) (fa (kI kp_ias) (fa (kI kp_ald) (fa (kI kp_ald) (fa (kI kp_gf) (fa (kI kp_push) (fa (kI kp_ia) (fa kC (fa kC f0)))))))))))))))))))))))))))))))))))))
set_option maxRecDepth 100000 in
set_option maxHeartbeats 4000000 in
theorem kp_R_share : ∀ (pc : Nat) (i : aIn), k_R_share pc = some i → KI pc i := lkl_ok (P := KI) (fa (kI kp_ild) (fa (kI kp_i2l) (fa (kI kp_push) (fa (kI kp_push) (fa kC (fa (kI kp_if) (fa (kI kp_ald) (fa (kI kp_push) (fa kC (fa kC (fa (kI kp_ald) (fa (kI kp_gf) (fa (kI kp_push) (fa (kI kp_ia) (fa (kI kp_ist) (fa (kI kp_ald) (fa (kI kp_gf) (fa (kI kp_push) (fa (kI kp_ild) (fa (kI kp_ias) (fa (kI kp_ald) (fa (kI kp_ild) (fa kC (fa kC f0))))))))))))))))))))))))
set_option maxRecDepth 100000 in
set_option maxHeartbeats 4000000 in
theorem kp_R_text : ∀ (pc : Nat) (i : aIn), k_R_text pc = some i → KI pc i := lkl_ok (P := KI) (fa (kI kp_ild) (fa (kI kp_i2l) (fa (kI kp_push) (fa (kI kp_push) (fa kC (fa (kI kp_if) (fa (kI kp_ald) (fa (kI kp_push) (fa kC (fa kC (fa (kI kp_ald) (fa (kI kp_gf) (fa (kI kp_push) (fa (kI kp_ia) (fa (kI kp_push) (fa (kI kp_ic) (fa (kI kp_ald) (fa (kI kp_push) (fa kC (fa kC (fa (kI kp_ald) (fa (kI kp_gf) (fa (kI kp_ald) (fa (kI kp_gf) (fa (kI kp_push) (fa (kI kp_ia) (fa (kI kp_ild) (fa (kI kp_ias) (fa (kI kp_ald) (fa (kI kp_gf) (fa (kI kp_push) (fa (kI kp_dup2) (fa (kI kp_ia) (fa (kI kp_push) (fa (kI kp_bin) (fa (kI kp_ias) (fa (kI kp_ald) (fa (kI kp_ald) (fa (kI kp_gf) (fa (kI kp_push) (fa (kI kp_ia) (fa kC (fa kC f0)))))))))))))))))))))))))))))))))))))))))))
set_option maxRecDepth 100000 in
set_option maxHeartbeats 4000000 in
theorem kp_R_wipe : ∀ (pc : Nat) (i : aIn), k_R_wipe pc = some i → KI pc i := lkl_ok (P := KI) (fa (kI kp_ald) (fa (kI kp_gf) (fa (kI kp_push) (fa (kI kp_ia) (fa (kI kp_ist) (fa (kI kp_ald) (fa (kI kp_gf) (fa (kI kp_push) (fa (kI kp_push) (fa (kI kp_ias) (fa (kI kp_ald) (fa (kI kp_ild) (fa kC (fa kC f0))))))))))))))
set_option maxRecDepth 100000 in
set_option maxHeartbeats 4000000 in
theorem kp_R_areAlike : ∀ (pc : Nat) (i : aIn), k_R_areAlike pc = some i → KI pc i := lkl_ok (P := KI) (fa (kI kp_ild) (fa (kI kp_if) (fa (kI kp_ild) (fa (kI kp_push) (fa (kI kp_div) (fa (kI kp_ild) (fa (kI kp_push) (fa (kI kp_div) (fa (kI kp_ic) (fa (kI kp_push) (fa (kI kp_go) (fa (kI kp_push) (fa (kI kp_go) (fa (kI kp_ild) (fa (kI kp_ild) (fa (kI kp_ic) (fa (kI kp_push) (fa (kI kp_go) (fa (kI kp_push) (fa kC f0))))))))))))))))))))
set_option maxRecDepth 100000 in
set_option maxHeartbeats 4000000 in
theorem kp_R_textAt : ∀ (pc : Nat) (i : aIn), k_R_textAt pc = some i → KI pc i := lkl_ok (P := KI) (fa (kI kp_ald) (fa (kI kp_gf) (fa (kI kp_push) (fa (kI kp_ild) (fa (kI kp_bin) (fa (kI kp_push) (fa (kI kp_ild) (fa (kI kp_bin) (fa (kI kp_bin) (fa (kI kp_ia) (fa kC f0)))))))))))
set_option maxRecDepth 100000 in
set_option maxHeartbeats 4000000 in
theorem kp_R_pairs_0 : ∀ (pc : Nat) (i : aIn), k_R_pairs_0 pc = some i → KI pc i := lkl_ok (P := KI) (fa (kI kp_ald) (fa (kI kp_gf) (fa (kI kp_ild) (fa (kI kp_ia) (fa (kI kp_ist) (fa (kI kp_ald) (fa (kI kp_gf) (fa (kI kp_push) (fa (kI kp_ia) (fa (kI kp_ist) (fa (kI kp_ild) (fa (kI kp_ist) (fa (kI kp_ild) (fa (kI kp_if) (fa (kI kp_ild) (fa (kI kp_ist) (fa (kI kp_ild) (fa (kI kp_if) (fa (kI kp_push) (fa (kI kp_ist) (fa (kI kp_ild) (fa (kI kp_ild) (fa (kI kp_ic) (fa (kI kp_ald) (fa (kI kp_gf) (fa (kI kp_push) (fa (kI kp_ild) (fa (kI kp_bin) (fa (kI kp_push) (fa (kI kp_bin) (fa (kI kp_ild) (fa (kI kp_bin) (fa (kI kp_ia) (fa (kI kp_ild) (fa (kI kp_ic) (fa (kI kp_ald) (fa (kI kp_gf) (fa (kI kp_push) (fa (kI kp_ild) (fa (kI kp_bin) (fa (kI kp_push) (fa (kI kp_bin) (fa (kI kp_ild) (fa (kI kp_bin) (fa (kI kp_ia) (fa (kI kp_ist) (fa (kI kp_ild) (fa (kI kp_ild) (fa (kI kp_ic) (fa (kI kp_ald) f0))))))))))))))))))))))))))))))))))))))))))))))))))
set_option maxRecDepth 100000 in
set_option maxHeartbeats 4000000 in
theorem kp_R_pairs_1 : ∀ (pc : Nat) (i : aIn), k_R_pairs_1 pc = some i → KI pc i := lkl_ok (P := KI) (fa (kI kp_gf) (fa (kI kp_push) (fa (kI kp_ild) (fa (kI kp_bin) (fa (kI kp_ild) (fa (kI kp_bin) (fa (kI kp_push) (fa (kI kp_bin) (fa (kI kp_ia) (fa (kI kp_ild) (fa (kI kp_ic) (fa (kI kp_ald) (fa (kI kp_gf) (fa (kI kp_push) (fa (kI kp_ild) (fa (kI kp_bin) (fa (kI kp_ild) (fa (kI kp_bin) (fa (kI kp_push) (fa (kI kp_bin) (fa (kI kp_ia) (fa (kI kp_ist) (fa (kI kp_ild) (fa (kI kp_ild) (fa (kI kp_ic) (fa (kI kp_ild) (fa (kI kp_ild) (fa (kI kp_ic) (fa (kI kp_ald) (fa (kI kp_ald) (fa (kI kp_ild) (fa (kI kp_ild) (fa kC (fa (kI kp_ald) (fa (kI kp_gf) (fa (kI kp_ild) (fa (kI kp_ia) (fa (kI kp_ild) (fa kC (fa (kI kp_if) (fa (kI kp_ald) (fa (kI kp_gf) (fa (kI kp_push) (fa (kI kp_ild) (fa (kI kp_bin) (fa (kI kp_push) (fa (kI kp_bin) (fa (kI kp_ild) (fa (kI kp_bin) (fa (kI kp_ia) f0))))))))))))))))))))))))))))))))))))))))))))))))))
set_option maxRecDepth 100000 in
set_option maxHeartbeats 4000000 in
theorem kp_R_pairs_2 : ∀ (pc : Nat) (i : aIn), k_R_pairs_2 pc = some i → KI pc i := lkl_ok (P := KI) (fa (kI kp_push) (fa (kI kp_bin) (fa (kI kp_ild) (fa (kI kp_ic) (fa (kI kp_ald) (fa (kI kp_gf) (fa (kI kp_push) (fa (kI kp_ild) (fa (kI kp_bin) (fa (kI kp_push) (fa (kI kp_bin) (fa (kI kp_ild) (fa (kI kp_bin) (fa (kI kp_ia) (fa (kI kp_push) (fa (kI kp_bin) (fa (kI kp_ist) (fa (kI kp_ald) (fa (kI kp_gf) (fa (kI kp_push) (fa (kI kp_ild) (fa (kI kp_bin) (fa (kI kp_ild) (fa (kI kp_bin) (fa (kI kp_ild) (fa (kI kp_ias) (fa (kI kp_inc) (fa (kI kp_go) (fa (kI kp_inc) (fa (kI kp_go) (fa (kI kp_push) (fa (kI kp_ist) (fa (kI kp_push) (fa (kI kp_ist) (fa (kI kp_ild) (fa (kI kp_ild) (fa (kI kp_ic) (fa (kI kp_ald) (fa (kI kp_gf) (fa (kI kp_ild) (fa (kI kp_push) (fa (kI kp_ias) (fa (kI kp_ild) (fa (kI kp_ist) (fa (kI kp_ild) (fa (kI kp_ild) (fa (kI kp_ic) (fa (kI kp_ald) (fa (kI kp_gf) (fa (kI kp_ild) f0))))))))))))))))))))))))))))))))))))))))))))))))))
set_option maxRecDepth 100000 in
set_option maxHeartbeats 4000000 in
theorem kp_R_pairs_3 : ∀ (pc : Nat) (i : aIn), k_R_pairs_3 pc = some i → KI pc i := lkl_ok (P := KI) (fa (kI kp_ia) (fa (kI kp_if) (fa (kI kp_ald) (fa (kI kp_ald) (fa (kI kp_ild) (fa (kI kp_ild) (fa kC (fa (kI kp_ald) (fa (kI kp_gf) (fa (kI kp_ild) (fa (kI kp_ia) (fa (kI kp_ild) (fa kC (fa (kI kp_if) (fa (kI kp_ald) (fa (kI kp_gf) (fa (kI kp_push) (fa (kI kp_ild) (fa (kI kp_bin) (fa (kI kp_push) (fa (kI kp_bin) (fa (kI kp_ild) (fa (kI kp_bin) (fa (kI kp_ia) (fa (kI kp_push) (fa (kI kp_bin) (fa (kI kp_ald) (fa (kI kp_gf) (fa (kI kp_push) (fa (kI kp_ild) (fa (kI kp_bin) (fa (kI kp_ild) (fa (kI kp_bin) (fa (kI kp_ia) (fa (kI kp_ic) (fa (kI kp_ald) (fa (kI kp_gf) (fa (kI kp_ild) (fa (kI kp_ild) (fa (kI kp_ias) (fa (kI kp_inc) (fa (kI kp_go) (fa (kI kp_ald) (fa (kI kp_gf) (fa (kI kp_ild) (fa (kI kp_ia) (fa (kI kp_if) (fa (kI kp_ald) (fa (kI kp_gf) (fa (kI kp_ild) f0))))))))))))))))))))))))))))))))))))))))))))))))))
set_option maxRecDepth 100000 in
set_option maxHeartbeats 4000000 in
theorem kp_R_pairs_4 : ∀ (pc : Nat) (i : aIn), k_R_pairs_4 pc = some i → KI pc i := lkl_ok (P := KI) (fa (kI kp_ia) (fa (kI kp_push) (fa (kI kp_bin) (fa (kI kp_ist) (fa (kI kp_inc) (fa (kI kp_go) (fa kC f0)))))))
theorem kp_R_pairs : ∀ (pc : Nat) (i : aIn), k_R_pairs pc = some i → KI pc i := (lkb_ok (lkb_ok (lkb_ok kp_R_pairs_4 kp_R_pairs_3) kp_R_pairs_2) (lkb_ok kp_R_pairs_1 kp_R_pairs_0))
set_option maxRecDepth 100000 in
set_option maxHeartbeats 4000000 in
theorem kp_R_isTaken : ∀ (pc : Nat) (i : aIn), k_R_isTaken pc = some i → KI pc i := lkl_ok (P := KI) (fa (kI kp_push) (fa (kI kp_ist) (fa (kI kp_push) (fa (kI kp_ist) (fa (kI kp_ild) (fa (kI kp_ild) (fa (kI kp_ic) (fa (kI kp_ild) (fa (kI kp_if) (fa (kI kp_ald) (fa (kI kp_gf) (fa (kI kp_ild) (fa (kI kp_ia) (fa (kI kp_ild) (fa (kI kp_ic) (fa (kI kp_push) (fa (kI kp_go) (fa (kI kp_push) (fa (kI kp_ist) (fa (kI kp_inc) (fa (kI kp_go) (fa (kI kp_ild) (fa kC f0)))))))))))))))))))))))
set_option maxRecDepth 100000 in
set_option maxHeartbeats 4000000 in
theorem kp_R_moves : ∀ (pc : Nat) (i : aIn), k_R_moves pc = some i → KI pc i := lkl_ok (P := KI) (fa (kI kp_push) (fa (kI kp_ist) (fa (kI kp_ild) (fa (kI kp_ald) (fa (kI kp_gf) (fa (kI kp_push) (fa (kI kp_ia) (fa (kI kp_ic) (fa (kI kp_push) (fa (kI kp_ist) (fa (kI kp_ild) (fa (kI kp_ald) (fa (kI kp_gf) (fa (kI kp_ild) (fa (kI kp_ia) (fa (kI kp_ic) (fa (kI kp_ald) (fa (kI kp_gf) (fa (kI kp_ild) (fa (kI kp_ia) (fa (kI kp_if) (fa (kI kp_ald) (fa (kI kp_ild) (fa (kI kp_ild) (fa kC (fa (kI kp_ald) (fa (kI kp_gf) (fa (kI kp_ild) (fa (kI kp_ia) (fa (kI kp_ic) (fa (kI kp_ald) (fa (kI kp_ild) (fa (kI kp_ald) (fa (kI kp_gf) (fa (kI kp_push) (fa (kI kp_ia) (fa kC (fa (kI kp_if) (fa (kI kp_ald) (fa (kI kp_gf) (fa (kI kp_ild) (fa (kI kp_ild) (fa (kI kp_ias) (fa (kI kp_inc) (fa (kI kp_go) (fa (kI kp_inc) (fa (kI kp_go) (fa kC f0))))))))))))))))))))))))))))))))))))))))))))))))
set_option maxRecDepth 100000 in
set_option maxHeartbeats 4000000 in
theorem kp_R_comes_0 : ∀ (pc : Nat) (i : aIn), k_R_comes_0 pc = some i → KI pc i := lkl_ok (P := KI) (fa (kI kp_ald) (fa (kI kp_gf) (fa (kI kp_push) (fa (kI kp_ia) (fa (kI kp_ist) (fa (kI kp_ald) (fa (kI kp_gf) (fa (kI kp_push) (fa (kI kp_dup2) (fa (kI kp_ia) (fa (kI kp_push) (fa (kI kp_bin) (fa (kI kp_ias) (fa (kI kp_ald) (fa (kI kp_gf) (fa (kI kp_ild) (fa (kI kp_ild) (fa (kI kp_ias) (fa (kI kp_ald) (fa (kI kp_gf) (fa (kI kp_ild) (fa (kI kp_ild) (fa (kI kp_ias) (fa (kI kp_ald) (fa (kI kp_gf) (fa (kI kp_ild) (fa (kI kp_ild) (fa (kI kp_ias) (fa (kI kp_ald) (fa (kI kp_gf) (fa (kI kp_ild) (fa (kI kp_ild) (fa (kI kp_ias) (fa (kI kp_ald) (fa (kI kp_gf) (fa (kI kp_ild) (fa (kI kp_ald) (fa (kI kp_gf) (fa (kI kp_push) (fa (kI kp_ia) (fa (kI kp_ias) (fa (kI kp_ald) (fa (kI kp_gf) (fa (kI kp_ild) (fa (kI kp_ald) (fa (kI kp_gf) (fa (kI kp_ild) (fa (kI kp_ia) (fa (kI kp_ias) (fa (kI kp_ald) f0))))))))))))))))))))))))))))))))))))))))))))))))))
set_option maxRecDepth 100000 in
set_option maxHeartbeats 4000000 in
theorem kp_R_comes_1 : ∀ (pc : Nat) (i : aIn), k_R_comes_1 pc = some i → KI pc i := lkl_ok (P := KI) (fa (kI kp_gf) (fa (kI kp_ild) (fa (kI kp_ald) (fa (kI kp_gf) (fa (kI kp_ild) (fa (kI kp_ia) (fa (kI kp_ias) (fa (kI kp_push) (fa (kI kp_ist) (fa (kI kp_ild) (fa (kI kp_push) (fa (kI kp_ic) (fa (kI kp_ald) (fa (kI kp_gf) (fa (kI kp_push) (fa (kI kp_ild) (fa (kI kp_bin) (fa (kI kp_ild) (fa (kI kp_bin) (fa (kI kp_ald) (fa (kI kp_gf) (fa (kI kp_push) (fa (kI kp_ild) (fa (kI kp_bin) (fa (kI kp_ild) (fa (kI kp_bin) (fa (kI kp_ia) (fa (kI kp_ias) (fa (kI kp_inc) (fa (kI kp_go) (fa (kI kp_ild) (fa kC f0))))))))))))))))))))))))))))))))
theorem kp_R_comes : ∀ (pc : Nat) (i : aIn), k_R_comes pc = some i → KI pc i := (lkb_ok kp_R_comes_1 kp_R_comes_0)
set_option maxRecDepth 100000 in
set_option maxHeartbeats 4000000 in
theorem kp_R_marks_0 : ∀ (pc : Nat) (i : aIn), k_R_marks_0 pc = some i → KI pc i := lkl_ok (P := KI) (fa (kI kp_ald) (fa (kI kp_ild) (fa (kI kp_push) (fa (kI kp_bin) (fa (kI kp_ia) (fa (kI kp_push) (fa (kI kp_ic) (fa (kI kp_ild) (fa (kI kp_push) (fa (kI kp_bin) (fa (kI kp_ist) (fa (kI kp_ild) (fa (kI kp_ild) (fa (kI kp_push) (fa (kI kp_bin) (fa (kI kp_ic) (fa (kI kp_ald) (fa (kI kp_ild) (fa (kI kp_ald) (fa (kI kp_ild) (fa (kI kp_push) (fa (kI kp_bin) (fa (kI kp_ia) (fa (kI kp_ias) (fa (kI kp_inc) (fa (kI kp_go) (fa (kI kp_ald) (fa (kI kp_ild) (fa (kI kp_push) (fa (kI kp_bin) (fa (kI kp_dup2) (fa (kI kp_ia) (fa (kI kp_push) (fa (kI kp_bin) (fa (kI kp_ias) (fa (kI kp_ild) (fa (kI kp_push) (fa (kI kp_bin) (fa (kI kp_push) (fa (kI kp_ald) (fa (kI kp_ild) (fa (kI kp_push) (fa (kI kp_bin) (fa (kI kp_ia) (fa (kI kp_bin) (fa (kI kp_bin) (fa (kI kp_ist) (fa (kI kp_ald) (fa (kI kp_ild) (fa (kI kp_ild) f0))))))))))))))))))))))))))))))))))))))))))))))))))
set_option maxRecDepth 100000 in
set_option maxHeartbeats 4000000 in
theorem kp_R_marks_1 : ∀ (pc : Nat) (i : aIn), k_R_marks_1 pc = some i → KI pc i := lkl_ok (P := KI) (fa (kI kp_ias) (fa (kI kp_ald) (fa (kI kp_ild) (fa (kI kp_push) (fa (kI kp_bin) (fa (kI kp_ild) (fa (kI kp_ias) (fa (kI kp_ald) (fa (kI kp_ild) (fa (kI kp_push) (fa (kI kp_bin) (fa (kI kp_ild) (fa (kI kp_ias) (fa (kI kp_ald) (fa (kI kp_ild) (fa (kI kp_push) (fa (kI kp_bin) (fa (kI kp_dup2) (fa (kI kp_ia) (fa (kI kp_push) (fa (kI kp_bin) (fa (kI kp_ias) (fa kC f0)))))))))))))))))))))))
theorem kp_R_marks : ∀ (pc : Nat) (i : aIn), k_R_marks pc = some i → KI pc i := (lkb_ok kp_R_marks_1 kp_R_marks_0)
set_option maxRecDepth 100000 in
set_option maxHeartbeats 4000000 in
theorem kp_R_change_0 : ∀ (pc : Nat) (i : aIn), k_R_change_0 pc = some i → KI pc i := lkl_ok (P := KI) (fa (kI kp_ild) (fa (kI kp_i2l) (fa (kI kp_push) (fa (kI kp_push) (fa kC (fa (kI kp_if) (fa (kI kp_ild) (fa (kI kp_push) (fa (kI kp_ic) (fa (kI kp_push) (fa (kI kp_go) (fa (kI kp_push) (fa (kI kp_ist) (fa (kI kp_ild) (fa (kI kp_push) (fa (kI kp_ic) (fa (kI kp_push) (fa (kI kp_go) (fa (kI kp_push) (fa (kI kp_ist) (fa (kI kp_ild) (fa (kI kp_if) (fa (kI kp_ild) (fa kC (fa (kI kp_if) (fa (kI kp_ald) (fa (kI kp_ild) (fa kC (fa (kI kp_if) (fa (kI kp_ild) (fa (kI kp_if) (fa (kI kp_ald) (fa (kI kp_ild) (fa kC (fa (kI kp_if) (fa (kI kp_ild) (fa (kI kp_ild) (fa (kI kp_ic) (fa (kI kp_ald) (fa (kI kp_push) (fa kC (fa kC (fa (kI kp_ald) (fa (kI kp_gf) (fa (kI kp_push) (fa (kI kp_ia) (fa (kI kp_push) (fa (kI kp_ic) (fa (kI kp_ald) (fa (kI kp_push) f0))))))))))))))))))))))))))))))))))))))))))))))))))
set_option maxRecDepth 100000 in
set_option maxHeartbeats 4000000 in
theorem kp_R_change_1 : ∀ (pc : Nat) (i : aIn), k_R_change_1 pc = some i → KI pc i := lkl_ok (P := KI) (fa kC (fa kC (fa (kI kp_ald) (fa (kI kp_ild) (fa kC (fa (kI kp_if) (fa (kI kp_ild) (fa (kI kp_if) (fa (kI kp_ald) (fa (kI kp_ild) (fa kC (fa (kI kp_if) (fa (kI kp_ald) (fa (kI kp_push) (fa kC (fa kC (fa (kI kp_ald) (fa (kI kp_ild) (fa (kI kp_ild) (fa (kI kp_ild) (fa (kI kp_ild) (fa (kI kp_if) (fa (kI kp_ild) (fa (kI kp_go) (fa (kI kp_push) (fa kC (fa (kI kp_ist) (fa (kI kp_ald) (fa (kI kp_ild) (fa (kI kp_ild) (fa (kI kp_push) (fa (kI kp_ic) (fa (kI kp_ild) (fa (kI kp_push) (fa (kI kp_ic) (fa (kI kp_push) (fa (kI kp_go) (fa (kI kp_push) (fa kC (fa (kI kp_ild) (fa (kI kp_push) (fa (kI kp_ic) (fa (kI kp_ald) (fa (kI kp_ild) (fa kC (fa (kI kp_ald) (fa (kI kp_gf) (fa (kI kp_ild) (fa (kI kp_push) (fa (kI kp_ias) f0))))))))))))))))))))))))))))))))))))))))))))))))))
set_option maxRecDepth 100000 in
set_option maxHeartbeats 4000000 in
theorem kp_R_change_2 : ∀ (pc : Nat) (i : aIn), k_R_change_2 pc = some i → KI pc i := lkl_ok (P := KI) (fa (kI kp_push) (fa (kI kp_ist) (fa (kI kp_ild) (fa (kI kp_ald) (fa (kI kp_gf) (fa (kI kp_push) (fa (kI kp_ia) (fa (kI kp_ic) (fa (kI kp_push) (fa (kI kp_ild) (fa (kI kp_bin) (fa (kI kp_ist) (fa (kI kp_push) (fa (kI kp_ist) (fa (kI kp_ild) (fa (kI kp_push) (fa (kI kp_ic) (fa (kI kp_ald) (fa (kI kp_gf) (fa (kI kp_ild) (fa (kI kp_ild) (fa (kI kp_bin) (fa (kI kp_ald) (fa (kI kp_gf) (fa (kI kp_ild) (fa (kI kp_ia) (fa (kI kp_if) (fa (kI kp_push) (fa (kI kp_go) (fa (kI kp_ald) (fa (kI kp_gf) (fa (kI kp_push) (fa (kI kp_ild) (fa (kI kp_bin) (fa (kI kp_push) (fa (kI kp_ald) (fa (kI kp_gf) (fa (kI kp_ild) (fa (kI kp_ia) (fa (kI kp_bin) (fa (kI kp_bin) (fa (kI kp_ild) (fa (kI kp_bin) (fa (kI kp_ia) (fa (kI kp_ias) (fa (kI kp_inc) (fa (kI kp_go) (fa (kI kp_ald) (fa (kI kp_gf) (fa (kI kp_ild) f0))))))))))))))))))))))))))))))))))))))))))))))))))
set_option maxRecDepth 100000 in
set_option maxHeartbeats 4000000 in
theorem kp_R_change_3 : ∀ (pc : Nat) (i : aIn), k_R_change_3 pc = some i → KI pc i := lkl_ok (P := KI) (fa (kI kp_ald) (fa (kI kp_gf) (fa (kI kp_ild) (fa (kI kp_ia) (fa (kI kp_ias) (fa (kI kp_ald) (fa (kI kp_gf) (fa (kI kp_ild) (fa (kI kp_dup2) (fa (kI kp_ia) (fa (kI kp_ald) (fa (kI kp_gf) (fa (kI kp_ild) (fa (kI kp_ia) (fa (kI kp_if) (fa (kI kp_push) (fa (kI kp_go) (fa (kI kp_push) (fa (kI kp_bin) (fa (kI kp_ias) (fa (kI kp_ald) (fa (kI kp_gf) (fa (kI kp_ild) (fa (kI kp_ia) (fa (kI kp_if) (fa (kI kp_go) (fa (kI kp_ald) (fa (kI kp_gf) (fa (kI kp_ild) (fa (kI kp_push) (fa (kI kp_bin) (fa (kI kp_ild) (fa (kI kp_ias) (fa (kI kp_ald) (fa (kI kp_ald) (fa (kI kp_gf) (fa (kI kp_ild) (fa (kI kp_ild) (fa (kI kp_ald) (fa (kI kp_gf) (fa (kI kp_push) (fa (kI kp_ia) (fa (kI kp_ild) (fa (kI kp_push) (fa (kI kp_ic) (fa (kI kp_push) (fa (kI kp_go) (fa (kI kp_ild) (fa (kI kp_if) (fa (kI kp_push) f0))))))))))))))))))))))))))))))))))))))))))))))))))
set_option maxRecDepth 100000 in
set_option maxHeartbeats 4000000 in
theorem kp_R_change_4 : ∀ (pc : Nat) (i : aIn), k_R_change_4 pc = some i → KI pc i := lkl_ok (P := KI) (fa (kI kp_go) (fa (kI kp_push) (fa kC (fa (kI kp_ild) (fa (kI kp_if) (fa (kI kp_ald) (fa (kI kp_ald) (fa (kI kp_gf) (fa (kI kp_ild) (fa (kI kp_ild) (fa (kI kp_ald) (fa (kI kp_gf) (fa (kI kp_push) (fa (kI kp_ia) (fa (kI kp_push) (fa kC (fa (kI kp_inc) (fa (kI kp_go) (fa (kI kp_push) (fa (kI kp_ist) (fa (kI kp_ild) (fa (kI kp_push) (fa (kI kp_ic) (fa (kI kp_ald) (fa (kI kp_gf) (fa (kI kp_push) (fa (kI kp_ild) (fa (kI kp_bin) (fa (kI kp_ild) (fa (kI kp_bin) (fa (kI kp_ild) (fa (kI kp_push) (fa (kI kp_ald) (fa (kI kp_gf) (fa (kI kp_push) (fa (kI kp_ia) (fa (kI kp_bin) (fa (kI kp_ic) (fa (kI kp_ald) (fa (kI kp_gf) (fa (kI kp_ild) (fa (kI kp_ia) (fa (kI kp_go) (fa (kI kp_push) (fa (kI kp_ias) (fa (kI kp_inc) (fa (kI kp_go) (fa (kI kp_ald) (fa (kI kp_gf) (fa (kI kp_ild) f0))))))))))))))))))))))))))))))))))))))))))))))))))
set_option maxRecDepth 100000 in
set_option maxHeartbeats 4000000 in
theorem kp_R_change_5 : ∀ (pc : Nat) (i : aIn), k_R_change_5 pc = some i → KI pc i := lkl_ok (P := KI) (fa (kI kp_ald) (fa (kI kp_gf) (fa (kI kp_push) (fa (kI kp_ia) (fa (kI kp_ias) (fa (kI kp_ald) (fa (kI kp_gf) (fa (kI kp_push) (fa (kI kp_push) (fa (kI kp_ias) (fa (kI kp_ald) (fa (kI kp_ild) (fa kC (fa kC f0))))))))))))))
theorem kp_R_change : ∀ (pc : Nat) (i : aIn), k_R_change pc = some i → KI pc i := (lkb_ok (lkb_ok (lkb_ok kp_R_change_5 kp_R_change_4) kp_R_change_3) (lkb_ok (lkb_ok kp_R_change_2 kp_R_change_1) kp_R_change_0))
set_option maxRecDepth 100000 in
set_option maxHeartbeats 4000000 in
theorem kp_R_back_0 : ∀ (pc : Nat) (i : aIn), k_R_back_0 pc = some i → KI pc i := lkl_ok (P := KI) (fa (kI kp_ald) (fa (kI kp_ild) (fa kC (fa (kI kp_if) (fa (kI kp_ald) (fa (kI kp_ild) (fa kC (fa (kI kp_if) (fa (kI kp_ald) (fa (kI kp_push) (fa kC (fa kC (fa (kI kp_ald) (fa (kI kp_gf) (fa (kI kp_push) (fa (kI kp_ia) (fa (kI kp_push) (fa (kI kp_ic) (fa (kI kp_ald) (fa (kI kp_push) (fa kC (fa kC (fa (kI kp_ald) (fa (kI kp_ild) (fa kC (fa (kI kp_if) (fa (kI kp_ald) (fa (kI kp_push) (fa kC (fa kC (fa (kI kp_ald) (fa (kI kp_gf) (fa (kI kp_ild) (fa (kI kp_ia) (fa (kI kp_ist) (fa (kI kp_ald) (fa (kI kp_push) (fa (kI kp_ild) (fa (kI kp_ild) (fa (kI kp_ild) (fa kC (fa (kI kp_ist) (fa (kI kp_push) (fa (kI kp_ist) (fa (kI kp_ild) (fa (kI kp_push) (fa (kI kp_ic) (fa (kI kp_ald) (fa (kI kp_gf) (fa (kI kp_push) f0))))))))))))))))))))))))))))))))))))))))))))))))))
set_option maxRecDepth 100000 in
set_option maxHeartbeats 4000000 in
theorem kp_R_back_1 : ∀ (pc : Nat) (i : aIn), k_R_back_1 pc = some i → KI pc i := lkl_ok (P := KI) (fa (kI kp_ild) (fa (kI kp_bin) (fa (kI kp_ild) (fa (kI kp_bin) (fa (kI kp_ald) (fa (kI kp_gf) (fa (kI kp_push) (fa (kI kp_ild) (fa (kI kp_bin) (fa (kI kp_ild) (fa (kI kp_bin) (fa (kI kp_ia) (fa (kI kp_ias) (fa (kI kp_inc) (fa (kI kp_go) (fa (kI kp_ald) (fa (kI kp_gf) (fa (kI kp_ild) (fa (kI kp_ald) (fa (kI kp_gf) (fa (kI kp_ild) (fa (kI kp_ia) (fa (kI kp_ias) (fa (kI kp_ald) (fa (kI kp_gf) (fa (kI kp_ild) (fa (kI kp_ald) (fa (kI kp_gf) (fa (kI kp_ild) (fa (kI kp_ia) (fa (kI kp_ias) (fa (kI kp_ald) (fa (kI kp_ild) (fa kC (fa kC f0)))))))))))))))))))))))))))))))))))
theorem kp_R_back : ∀ (pc : Nat) (i : aIn), k_R_back pc = some i → KI pc i := (lkb_ok kp_R_back_1 kp_R_back_0)
set_option maxRecDepth 100000 in
set_option maxHeartbeats 4000000 in
theorem kp_R_read : ∀ (pc : Nat) (i : aIn), k_R_read pc = some i → KI pc i := lkl_ok (P := KI) (fa (kI kp_ald) (fa (kI kp_ild) (fa kC (fa (kI kp_if) (fa (kI kp_ald) (fa (kI kp_ild) (fa (kI kp_ild) (fa kC (fa (kI kp_if) (fa (kI kp_ald) (fa (kI kp_ild) (fa (kI kp_ild) (fa kC (fa (kI kp_if) (fa (kI kp_ild) (fa (kI kp_ild) (fa (kI kp_ic) (fa (kI kp_ald) (fa (kI kp_push) (fa kC (fa kC (fa (kI kp_ald) (fa (kI kp_ild) (fa kC (fa (kI kp_if) (fa (kI kp_ald) (fa (kI kp_push) (fa kC (fa kC (fa (kI kp_ild) (fa (kI kp_ist) (fa (kI kp_ild) (fa (kI kp_ild) (fa (kI kp_ic) (fa (kI kp_ald) (fa (kI kp_ald) (fa (kI kp_gf) (fa (kI kp_push) (fa (kI kp_ild) (fa (kI kp_bin) (fa (kI kp_push) (fa (kI kp_ild) (fa (kI kp_bin) (fa (kI kp_bin) (fa (kI kp_ild) (fa (kI kp_ald) (fa (kI kp_gf) (fa (kI kp_push) (fa (kI kp_ia) (fa (kI kp_push) (fa kC (fa (kI kp_inc) (fa (kI kp_go) (fa (kI kp_ald) (fa (kI kp_ild) (fa (kI kp_ild) (fa (kI kp_bin) (fa (kI kp_push) (fa (kI kp_bin) (fa kC (fa kC f0)))))))))))))))))))))))))))))))))))))))))))))))))))))))))))))
set_option maxRecDepth 100000 in
set_option maxHeartbeats 4000000 in
theorem kp_R_keeps : ∀ (pc : Nat) (i : aIn), k_R_keeps pc = some i → KI pc i := lkl_ok (P := KI) (fa (kI kp_push) (fa (kI kp_ist) (fa (kI kp_ild) (fa (kI kp_ald) (fa (kI kp_len) (fa (kI kp_ic) (fa (kI kp_ild) (fa (kI kp_if) (fa (kI kp_ald) (fa (kI kp_gf) (fa (kI kp_ald) (fa (kI kp_gf) (fa (kI kp_ald) (fa (kI kp_ild) (fa (kI kp_ia) (fa (kI kp_ias) (fa (kI kp_go) (fa (kI kp_ald) (fa (kI kp_ild) (fa (kI kp_ald) (fa (kI kp_gf) (fa (kI kp_ald) (fa (kI kp_gf) (fa (kI kp_ia) (fa (kI kp_ias) (fa (kI kp_ald) (fa (kI kp_dup) (fa (kI kp_gf) (fa (kI kp_push) (fa (kI kp_bin) (fa (kI kp_pf) (fa (kI kp_inc) (fa (kI kp_go) (fa kC f0))))))))))))))))))))))))))))))))))
set_option maxRecDepth 100000 in
set_option maxHeartbeats 4000000 in
theorem kp_R_keepsAll_0 : ∀ (pc : Nat) (i : aIn), k_R_keepsAll_0 pc = some i → KI pc i := lkl_ok (P := KI) (fa (kI kp_ald) (fa (kI kp_push) (fa (kI kp_pf) (fa (kI kp_ald) (fa (kI kp_ald) (fa (kI kp_gf) (fa (kI kp_ild) (fa kC (fa (kI kp_ald) (fa (kI kp_ald) (fa (kI kp_gf) (fa (kI kp_ild) (fa kC (fa (kI kp_ald) (fa (kI kp_ald) (fa (kI kp_gf) (fa (kI kp_ild) (fa kC (fa (kI kp_ald) (fa (kI kp_ald) (fa (kI kp_gf) (fa (kI kp_ild) (fa kC (fa (kI kp_ald) (fa (kI kp_ald) (fa (kI kp_gf) (fa (kI kp_ild) (fa kC (fa (kI kp_ald) (fa (kI kp_ald) (fa (kI kp_gf) (fa (kI kp_ild) (fa kC (fa (kI kp_ald) (fa (kI kp_ald) (fa (kI kp_gf) (fa (kI kp_ild) (fa kC (fa (kI kp_ald) (fa (kI kp_ald) (fa (kI kp_gf) (fa (kI kp_ild) (fa kC (fa (kI kp_ald) (fa (kI kp_ald) (fa (kI kp_gf) (fa (kI kp_ild) (fa kC (fa (kI kp_ald) (fa (kI kp_ald) f0))))))))))))))))))))))))))))))))))))))))))))))))))
set_option maxRecDepth 100000 in
set_option maxHeartbeats 4000000 in
theorem kp_R_keepsAll_1 : ∀ (pc : Nat) (i : aIn), k_R_keepsAll_1 pc = some i → KI pc i := lkl_ok (P := KI) (fa (kI kp_gf) (fa (kI kp_ild) (fa kC (fa (kI kp_ald) (fa (kI kp_ald) (fa (kI kp_gf) (fa (kI kp_ild) (fa kC (fa (kI kp_ald) (fa (kI kp_ald) (fa (kI kp_gf) (fa (kI kp_ild) (fa kC (fa (kI kp_ald) (fa (kI kp_ald) (fa (kI kp_gf) (fa (kI kp_ild) (fa kC (fa (kI kp_ald) (fa (kI kp_ald) (fa (kI kp_gf) (fa (kI kp_ild) (fa kC (fa kC f0))))))))))))))))))))))))
theorem kp_R_keepsAll : ∀ (pc : Nat) (i : aIn), k_R_keepsAll pc = some i → KI pc i := (lkb_ok kp_R_keepsAll_1 kp_R_keepsAll_0)
set_option maxRecDepth 100000 in
set_option maxHeartbeats 4000000 in
theorem kp_R_image : ∀ (pc : Nat) (i : aIn), k_R_image pc = some i → KI pc i := lkl_ok (P := KI) (fa (kI kp_ald) (fa (kI kp_push) (fa kC (fa (kI kp_ald) (fa (kI kp_push) (fa (kI kp_pf) (fa (kI kp_ald) (fa (kI kp_push) (fa kC (fa kC f0))))))))))
set_option maxRecDepth 100000 in
set_option maxHeartbeats 4000000 in
theorem kp_R_restore : ∀ (pc : Nat) (i : aIn), k_R_restore pc = some i → KI pc i := lkl_ok (P := KI) (fa (kI kp_ald) (fa (kI kp_gf) (fa (kI kp_push) (fa (kI kp_ic) (fa (kI kp_ald) (fa (kI kp_push) (fa kC (fa kC (fa (kI kp_ald) (fa (kI kp_gf) (fa (kI kp_if) (fa (kI kp_ald) (fa (kI kp_push) (fa kC (fa kC (fa (kI kp_ald) (fa (kI kp_dup) (fa (kI kp_gf) (fa (kI kp_push) (fa (kI kp_bin) (fa (kI kp_pf) (fa (kI kp_ald) (fa (kI kp_push) (fa kC (fa (kI kp_ald) (fa (kI kp_ald) (fa (kI kp_gf) (fa (kI kp_push) (fa (kI kp_ia) (fa kC (fa kC f0)))))))))))))))))))))))))))))))
set_option maxRecDepth 100000 in
set_option maxHeartbeats 4000000 in
theorem kp_R_lines : ∀ (pc : Nat) (i : aIn), k_R_lines pc = some i → KI pc i := lkl_ok (P := KI) (fa (kI kp_ild) (fa kC (fa (kI kp_if) (fa (kI kp_ald) (fa (kI kp_gf) (fa (kI kp_ild) (fa (kI kp_ia) (fa (kI kp_go) (fa (kI kp_push) (fa kC f0))))))))))
set_option maxRecDepth 100000 in
set_option maxHeartbeats 4000000 in
theorem kp_R_line : ∀ (pc : Nat) (i : aIn), k_R_line pc = some i → KI pc i := lkl_ok (P := KI) (fa (kI kp_ald) (fa (kI kp_ild) (fa (kI kp_ild) (fa kC (fa (kI kp_if) (fa (kI kp_ild) (fa (kI kp_i2l) (fa (kI kp_push) (fa (kI kp_push) (fa kC (fa (kI kp_if) (fa (kI kp_ald) (fa (kI kp_gf) (fa (kI kp_push) (fa (kI kp_ild) (fa (kI kp_bin) (fa (kI kp_push) (fa (kI kp_ild) (fa (kI kp_bin) (fa (kI kp_bin) (fa (kI kp_ild) (fa (kI kp_bin) (fa (kI kp_ia) (fa (kI kp_go) (fa (kI kp_push) (fa kC f0))))))))))))))))))))))))))
set_option maxRecDepth 100000 in
set_option maxHeartbeats 4000000 in
theorem kp_R_mark : ∀ (pc : Nat) (i : aIn), k_R_mark pc = some i → KI pc i := lkl_ok (P := KI) (fa (kI kp_ald) (fa (kI kp_ild) (fa (kI kp_ild) (fa kC (fa (kI kp_if) (fa (kI kp_ild) (fa (kI kp_i2l) (fa (kI kp_push) (fa (kI kp_push) (fa kC (fa (kI kp_if) (fa (kI kp_ild) (fa (kI kp_i2l) (fa (kI kp_push) (fa (kI kp_ald) (fa (kI kp_gf) (fa (kI kp_push) (fa (kI kp_ild) (fa (kI kp_bin) (fa (kI kp_push) (fa (kI kp_ild) (fa (kI kp_bin) (fa (kI kp_bin) (fa (kI kp_push) (fa (kI kp_bin) (fa (kI kp_ia) (fa (kI kp_push) (fa (kI kp_bin) (fa (kI kp_i2l) (fa kC (fa (kI kp_if) (fa (kI kp_push) (fa kC (fa (kI kp_ald) (fa (kI kp_gf) (fa (kI kp_push) (fa (kI kp_ild) (fa (kI kp_bin) (fa (kI kp_push) (fa (kI kp_ild) (fa (kI kp_bin) (fa (kI kp_bin) (fa (kI kp_push) (fa (kI kp_bin) (fa (kI kp_push) (fa (kI kp_ild) (fa (kI kp_bin) (fa (kI kp_bin) (fa (kI kp_ild) (fa (kI kp_bin) (fa (kI kp_ia) (fa kC f0))))))))))))))))))))))))))))))))))))))))))))))))))))
set_option maxRecDepth 100000 in
set_option maxHeartbeats 4000000 in
theorem kp_R_madeBy : ∀ (pc : Nat) (i : aIn), k_R_madeBy pc = some i → KI pc i := lkl_ok (P := KI) (fa (kI kp_push) (fa (kI kp_ist) (fa (kI kp_push) (fa (kI kp_ist) (fa (kI kp_ild) (fa (kI kp_push) (fa (kI kp_ic) (fa (kI kp_push) (fa (kI kp_ist) (fa (kI kp_ild) (fa (kI kp_ald) (fa (kI kp_gf) (fa (kI kp_ild) (fa (kI kp_ia) (fa (kI kp_ic) (fa (kI kp_ild) (fa (kI kp_ald) (fa (kI kp_gf) (fa (kI kp_push) (fa (kI kp_ild) (fa (kI kp_bin) (fa (kI kp_push) (fa (kI kp_ild) (fa (kI kp_bin) (fa (kI kp_bin) (fa (kI kp_push) (fa (kI kp_bin) (fa (kI kp_ia) (fa (kI kp_ild) (fa (kI kp_ic) (fa (kI kp_push) (fa (kI kp_go) (fa (kI kp_push) (fa (kI kp_bin) (fa (kI kp_ist) (fa (kI kp_inc) (fa (kI kp_go) (fa (kI kp_inc) (fa (kI kp_go) (fa (kI kp_ild) (fa kC f0)))))))))))))))))))))))))))))))))))))))))
set_option maxRecDepth 100000 in
set_option maxHeartbeats 4000000 in
theorem kp_R_changeTold : ∀ (pc : Nat) (i : aIn), k_R_changeTold pc = some i → KI pc i := lkl_ok (P := KI) (fa (kI kp_ald) (fa (kI kp_ild) (fa kC (fa (kI kp_if) (fa (kI kp_push) (fa kC (fa (kI kp_ild) (fa (kI kp_sw) (fa (kI kp_ald) (fa (kI kp_gf) (fa (kI kp_ild) (fa (kI kp_ia) (fa kC (fa (kI kp_ald) (fa (kI kp_gf) (fa (kI kp_ild) (fa (kI kp_ia) (fa kC (fa (kI kp_ald) (fa (kI kp_gf) (fa (kI kp_ild) (fa (kI kp_ia) (fa kC (fa (kI kp_ald) (fa (kI kp_gf) (fa (kI kp_ild) (fa (kI kp_ia) (fa kC (fa (kI kp_ald) (fa (kI kp_gf) (fa (kI kp_ild) (fa (kI kp_ia) (fa kC (fa (kI kp_ald) (fa (kI kp_gf) (fa (kI kp_ild) (fa (kI kp_ia) (fa kC (fa (kI kp_ald) (fa (kI kp_gf) (fa (kI kp_ild) (fa (kI kp_ia) (fa kC (fa (kI kp_ald) (fa (kI kp_ild) (fa kC (fa kC (fa (kI kp_push) (fa kC f0)))))))))))))))))))))))))))))))))))))))))))))))))
set_option maxRecDepth 100000 in
set_option maxHeartbeats 4000000 in
theorem kp_R_pointsFrom : ∀ (pc : Nat) (i : aIn), k_R_pointsFrom pc = some i → KI pc i := lkl_ok (P := KI) (fa (kI kp_push) (fa (kI kp_ild) (fa (kI kp_bin) (fa (kI kp_push) (fa (kI kp_ild) (fa (kI kp_bin) (fa (kI kp_bin) (fa (kI kp_ist) (fa (kI kp_push) (fa (kI kp_ist) (fa (kI kp_ild) (fa (kI kp_ist) (fa (kI kp_ild) (fa (kI kp_ald) (fa (kI kp_gf) (fa (kI kp_ild) (fa (kI kp_push) (fa (kI kp_bin) (fa (kI kp_ia) (fa (kI kp_ic) (fa (kI kp_ild) (fa (kI kp_push) (fa (kI kp_bin) (fa (kI kp_push) (fa (kI kp_ild) (fa (kI kp_bin) (fa (kI kp_bin) (fa (kI kp_ist) (fa (kI kp_ald) (fa (kI kp_gf) (fa (kI kp_ild) (fa (kI kp_push) (fa (kI kp_bin) (fa (kI kp_ia) (fa (kI kp_ald) (fa (kI kp_gf) (fa (kI kp_push) (fa (kI kp_ia) (fa (kI kp_ald) (fa (kI kp_gf) (fa (kI kp_ild) (fa (kI kp_push) (fa (kI kp_bin) (fa (kI kp_ia) (fa (kI kp_bin) (fa (kI kp_push) (fa (kI kp_div) (fa (kI kp_bin) (fa (kI kp_ist) (fa (kI kp_ild) (fa (kI kp_ald) (fa (kI kp_gf) (fa (kI kp_ild) (fa (kI kp_ia) (fa (kI kp_ild) (fa (kI kp_ic) (fa (kI kp_ild) (fa (kI kp_if) (fa (kI kp_ild) (fa (kI kp_go) (fa (kI kp_push) (fa (kI kp_bin) (fa (kI kp_ist) (fa (kI kp_inc) (fa (kI kp_go) (fa (kI kp_ild) (fa kC f0)))))))))))))))))))))))))))))))))))))))))))))))))))))))))))))))))))
set_option maxRecDepth 100000 in
set_option maxHeartbeats 4000000 in
theorem kp_R_points : ∀ (pc : Nat) (i : aIn), k_R_points pc = some i → KI pc i := lkl_ok (P := KI) (fa (kI kp_ald) (fa (kI kp_ild) (fa kC (fa (kI kp_if) (fa (kI kp_ald) (fa (kI kp_ild) (fa (kI kp_ild) (fa kC (fa (kI kp_if) (fa (kI kp_ald) (fa (kI kp_ild) (fa (kI kp_ild) (fa (kI kp_ild) (fa (kI kp_push) (fa kC (fa (kI kp_go) (fa (kI kp_push) (fa kC f0))))))))))))))))))
set_option maxRecDepth 100000 in
set_option maxHeartbeats 4000000 in
theorem kp_R_known : ∀ (pc : Nat) (i : aIn), k_R_known pc = some i → KI pc i := lkl_ok (P := KI) (fa (kI kp_push) (fa (kI kp_ist) (fa (kI kp_push) (fa (kI kp_ist) (fa (kI kp_ild) (fa (kI kp_ald) (fa (kI kp_gf) (fa (kI kp_ild) (fa (kI kp_ia) (fa (kI kp_ic) (fa (kI kp_ild) (fa (kI kp_ald) (fa (kI kp_ild) (fa (kI kp_ild) (fa (kI kp_ild) (fa (kI kp_push) (fa kC (fa (kI kp_push) (fa (kI kp_ic) (fa (kI kp_push) (fa (kI kp_go) (fa (kI kp_push) (fa (kI kp_bin) (fa (kI kp_ist) (fa (kI kp_inc) (fa (kI kp_go) (fa (kI kp_ild) (fa kC f0))))))))))))))))))))))))))))
set_option maxRecDepth 100000 in
set_option maxHeartbeats 4000000 in
theorem kp_R_knows : ∀ (pc : Nat) (i : aIn), k_R_knows pc = some i → KI pc i := lkl_ok (P := KI) (fa (kI kp_ald) (fa (kI kp_ild) (fa kC (fa (kI kp_if) (fa (kI kp_ild) (fa kC (fa (kI kp_if) (fa (kI kp_ald) (fa (kI kp_ild) (fa (kI kp_ild) (fa kC (fa (kI kp_go) (fa (kI kp_push) (fa kC f0))))))))))))))
set_option maxRecDepth 100000 in
set_option maxHeartbeats 4000000 in
theorem kp_R_does : ∀ (pc : Nat) (i : aIn), k_R_does pc = some i → KI pc i := lkl_ok (P := KI) (fa (kI kp_push) (fa (kI kp_ild) (fa (kI kp_bin) (fa (kI kp_ald) (fa (kI kp_gf) (fa (kI kp_push) (fa (kI kp_ia) (fa (kI kp_ald) (fa (kI kp_gf) (fa (kI kp_ild) (fa (kI kp_ia) (fa (kI kp_bin) (fa (kI kp_ic) (fa (kI kp_push) (fa (kI kp_go) (fa (kI kp_push) (fa kC f0)))))))))))))))))
set_option maxRecDepth 100000 in
set_option maxHeartbeats 4000000 in
theorem kp_R_isAble : ∀ (pc : Nat) (i : aIn), k_R_isAble pc = some i → KI pc i := lkl_ok (P := KI) (fa (kI kp_ald) (fa (kI kp_ald) (fa (kI kp_ild) (fa (kI kp_ild) (fa kC (fa (kI kp_ild) (fa kC (fa kC f0))))))))
set_option maxRecDepth 100000 in
set_option maxHeartbeats 4000000 in
theorem kp_R_able : ∀ (pc : Nat) (i : aIn), k_R_able pc = some i → KI pc i := lkl_ok (P := KI) (fa (kI kp_ald) (fa (kI kp_ild) (fa kC (fa (kI kp_if) (fa (kI kp_ild) (fa kC (fa (kI kp_if) (fa (kI kp_push) (fa (kI kp_go) (fa (kI kp_ald) (fa (kI kp_ild) (fa (kI kp_ild) (fa kC (fa (kI kp_if) (fa (kI kp_push) (fa (kI kp_go) (fa (kI kp_push) (fa kC f0))))))))))))))))))
set_option maxRecDepth 100000 in
set_option maxHeartbeats 4000000 in
theorem kp_R_findAbles : ∀ (pc : Nat) (i : aIn), k_R_findAbles pc = some i → KI pc i := lkl_ok (P := KI) (fa (kI kp_push) (fa (kI kp_ist) (fa (kI kp_ild) (fa (kI kp_push) (fa (kI kp_ic) (fa (kI kp_ald) (fa (kI kp_gf) (fa (kI kp_ild) (fa (kI kp_push) (fa (kI kp_ias) (fa (kI kp_push) (fa (kI kp_ist) (fa (kI kp_ild) (fa (kI kp_ald) (fa (kI kp_gf) (fa (kI kp_push) (fa (kI kp_ia) (fa (kI kp_ic) (fa (kI kp_ald) (fa (kI kp_gf) (fa (kI kp_ild) (fa (kI kp_dup2) (fa (kI kp_ia) (fa (kI kp_ald) (fa (kI kp_ild) (fa kC (fa (kI kp_if) (fa (kI kp_ald) (fa (kI kp_ild) (fa (kI kp_ild) (fa kC (fa (kI kp_if) (fa (kI kp_push) (fa (kI kp_ild) (fa (kI kp_bin) (fa (kI kp_go) (fa (kI kp_push) (fa (kI kp_bin) (fa (kI kp_ias) (fa (kI kp_inc) (fa (kI kp_go) (fa (kI kp_inc) (fa (kI kp_go) (fa kC f0))))))))))))))))))))))))))))))))))))))))))))
set_option maxRecDepth 100000 in
set_option maxHeartbeats 4000000 in
theorem kp_R_lostBy : ∀ (pc : Nat) (i : aIn), k_R_lostBy pc = some i → KI pc i := lkl_ok (P := KI) (fa (kI kp_push) (fa (kI kp_ist) (fa (kI kp_push) (fa (kI kp_ist) (fa (kI kp_ild) (fa (kI kp_push) (fa (kI kp_ic) (fa (kI kp_ild) (fa (kI kp_ald) (fa (kI kp_gf) (fa (kI kp_ild) (fa (kI kp_ia) (fa (kI kp_ild) (fa (kI kp_push) (fa (kI kp_bin) (fa (kI kp_bin) (fa (kI kp_if) (fa (kI kp_push) (fa (kI kp_ild) (fa (kI kp_bin) (fa (kI kp_go) (fa (kI kp_push) (fa (kI kp_bin) (fa (kI kp_ist) (fa (kI kp_inc) (fa (kI kp_go) (fa (kI kp_ild) (fa kC f0))))))))))))))))))))))))))))
set_option maxRecDepth 100000 in
set_option maxHeartbeats 4000000 in
theorem kp_R_lost : ∀ (pc : Nat) (i : aIn), k_R_lost pc = some i → KI pc i := lkl_ok (P := KI) (fa (kI kp_ild) (fa (kI kp_if) (fa (kI kp_ild) (fa (kI kp_push) (fa (kI kp_ald) (fa (kI kp_gf) (fa (kI kp_push) (fa (kI kp_ia) (fa (kI kp_bin) (fa (kI kp_ic) (fa (kI kp_push) (fa kC (fa (kI kp_ald) (fa kC (fa (kI kp_ald) (fa (kI kp_ild) (fa kC (fa kC f0))))))))))))))))))
set_option maxRecDepth 100000 in
set_option maxHeartbeats 4000000 in
theorem kp_R_bits : ∀ (pc : Nat) (i : aIn), k_R_bits pc = some i → KI pc i := lkl_ok (P := KI) (fa (kI kp_push) (fa (kI kp_ist) (fa (kI kp_push) (fa (kI kp_ist) (fa (kI kp_ild) (fa (kI kp_push) (fa (kI kp_ic) (fa (kI kp_ild) (fa (kI kp_ild) (fa (kI kp_ild) (fa (kI kp_bin) (fa (kI kp_push) (fa (kI kp_bin) (fa (kI kp_bin) (fa (kI kp_ist) (fa (kI kp_inc) (fa (kI kp_go) (fa (kI kp_ild) (fa kC f0)))))))))))))))))))
set_option maxRecDepth 100000 in
set_option maxHeartbeats 4000000 in
theorem kp_R_isLone : ∀ (pc : Nat) (i : aIn), k_R_isLone pc = some i → KI pc i := lkl_ok (P := KI) (fa (kI kp_ald) (fa (kI kp_ild) (fa kC (fa (kI kp_ist) (fa (kI kp_push) (fa (kI kp_ist) (fa (kI kp_ild) (fa (kI kp_push) (fa (kI kp_ic) (fa (kI kp_ild) (fa (kI kp_ild) (fa (kI kp_bin) (fa (kI kp_push) (fa (kI kp_bin) (fa (kI kp_push) (fa (kI kp_ic) (fa (kI kp_ild) (fa (kI kp_ald) (fa (kI kp_ild) (fa (kI kp_push) (fa (kI kp_ild) (fa (kI kp_bin) (fa (kI kp_push) (fa (kI kp_bin) (fa (kI kp_bin) (fa kC (fa (kI kp_push) (fa (kI kp_bin) (fa (kI kp_bin) (fa (kI kp_ist) (fa (kI kp_inc) (fa (kI kp_go) (fa (kI kp_ild) (fa (kI kp_if) (fa (kI kp_push) (fa (kI kp_go) (fa (kI kp_push) (fa kC f0))))))))))))))))))))))))))))))))))))))
set_option maxRecDepth 100000 in
set_option maxHeartbeats 4000000 in
theorem kp_R_loneAt : ∀ (pc : Nat) (i : aIn), k_R_loneAt pc = some i → KI pc i := lkl_ok (P := KI) (fa (kI kp_ald) (fa kC (fa (kI kp_ald) (fa (kI kp_push) (fa (kI kp_pf) (fa (kI kp_push) (fa (kI kp_ist) (fa (kI kp_ild) (fa (kI kp_push) (fa (kI kp_ic) (fa (kI kp_push) (fa (kI kp_ist) (fa (kI kp_ild) (fa (kI kp_push) (fa (kI kp_ic) (fa (kI kp_ild) (fa kC (fa (kI kp_ild) (fa (kI kp_ic) (fa (kI kp_ild) (fa (kI kp_ald) (fa (kI kp_gf) (fa (kI kp_push) (fa (kI kp_ia) (fa (kI kp_push) (fa (kI kp_bin) (fa (kI kp_bin) (fa (kI kp_if) (fa (kI kp_ald) (fa (kI kp_ild) (fa kC (fa (kI kp_if) (fa (kI kp_go) (fa (kI kp_ald) (fa (kI kp_gf) (fa (kI kp_ild) (fa (kI kp_ic) (fa (kI kp_ild) (fa kC (fa (kI kp_ald) (fa (kI kp_dup) (fa (kI kp_gf) (fa (kI kp_push) (fa (kI kp_bin) (fa (kI kp_pf) (fa (kI kp_inc) (fa (kI kp_go) (fa (kI kp_inc) (fa (kI kp_go) (fa (kI kp_push) (fa kC f0)))))))))))))))))))))))))))))))))))))))))))))))))))
set_option maxRecDepth 100000 in
set_option maxHeartbeats 4000000 in
theorem kp_R_lone : ∀ (pc : Nat) (i : aIn), k_R_lone pc = some i → KI pc i := lkl_ok (P := KI) (fa (kI kp_ild) (fa (kI kp_if) (fa (kI kp_push) (fa (kI kp_go) (fa (kI kp_ald) (fa (kI kp_ild) (fa kC (fa kC f0))))))))
set_option maxRecDepth 100000 in
set_option maxHeartbeats 4000000 in
theorem kp_R_cover : ∀ (pc : Nat) (i : aIn), k_R_cover pc = some i → KI pc i := lkl_ok (P := KI) (fa (kI kp_ald) (fa kC (fa (kI kp_push) (fa (kI kp_ist) (fa (kI kp_ild) (fa (kI kp_push) (fa (kI kp_ic) (fa (kI kp_push) (fa (kI kp_ist) (fa (kI kp_ild) (fa (kI kp_push) (fa (kI kp_ic) (fa (kI kp_ild) (fa kC (fa (kI kp_ild) (fa (kI kp_ic) (fa (kI kp_ild) (fa (kI kp_ald) (fa (kI kp_gf) (fa (kI kp_push) (fa (kI kp_ia) (fa (kI kp_push) (fa (kI kp_bin) (fa (kI kp_bin) (fa (kI kp_if) (fa (kI kp_ald) (fa (kI kp_ild) (fa kC (fa (kI kp_if) (fa (kI kp_ild) (fa kC (fa (kI kp_inc) (fa (kI kp_go) (fa (kI kp_inc) (fa (kI kp_go) (fa (kI kp_push) (fa kC f0)))))))))))))))))))))))))))))))))))))
set_option maxRecDepth 100000 in
set_option maxHeartbeats 4000000 in
theorem kp_R_covers : ∀ (pc : Nat) (i : aIn), k_R_covers pc = some i → KI pc i := lkl_ok (P := KI) (fa (kI kp_push) (fa (kI kp_ist) (fa (kI kp_push) (fa (kI kp_ist) (fa (kI kp_ild) (fa (kI kp_push) (fa (kI kp_ic) (fa (kI kp_ild) (fa (kI kp_if) (fa (kI kp_ald) (fa (kI kp_gf) (fa (kI kp_ild) (fa (kI kp_ia) (fa (kI kp_if) (fa (kI kp_ald) (fa (kI kp_gf) (fa (kI kp_ild) (fa (kI kp_ia) (fa (kI kp_ild) (fa (kI kp_bin) (fa (kI kp_if) (fa (kI kp_push) (fa (kI kp_go) (fa (kI kp_push) (fa (kI kp_ist) (fa (kI kp_inc) (fa (kI kp_go) (fa (kI kp_ild) (fa kC f0)))))))))))))))))))))))))))))
set_option maxRecDepth 100000 in
set_option maxHeartbeats 4000000 in
theorem kp_R_findTasks : ∀ (pc : Nat) (i : aIn), k_R_findTasks pc = some i → KI pc i := lkl_ok (P := KI) (fa (kI kp_push) (fa (kI kp_ist) (fa (kI kp_ild) (fa (kI kp_push) (fa (kI kp_ic) (fa (kI kp_push) (fa (kI kp_ist) (fa (kI kp_ild) (fa (kI kp_push) (fa (kI kp_ic) (fa (kI kp_ald) (fa (kI kp_gf) (fa (kI kp_push) (fa (kI kp_ild) (fa (kI kp_bin) (fa (kI kp_ild) (fa (kI kp_bin) (fa (kI kp_ald) (fa (kI kp_ild) (fa kC (fa (kI kp_if) (fa (kI kp_ald) (fa (kI kp_ild) (fa kC (fa (kI kp_if) (fa (kI kp_ald) (fa (kI kp_ild) (fa (kI kp_ild) (fa kC (fa (kI kp_go) (fa (kI kp_push) (fa (kI kp_ias) (fa (kI kp_inc) (fa (kI kp_go) (fa (kI kp_inc) (fa (kI kp_go) (fa kC f0)))))))))))))))))))))))))))))))))))))
set_option maxRecDepth 100000 in
set_option maxHeartbeats 4000000 in
theorem kp_R_taskOf_0 : ∀ (pc : Nat) (i : aIn), k_R_taskOf_0 pc = some i → KI pc i := lkl_ok (P := KI) (fa (kI kp_ald) (fa (kI kp_ild) (fa (kI kp_ild) (fa kC (fa (kI kp_if) (fa (kI kp_push) (fa kC (fa (kI kp_push) (fa (kI kp_ist) (fa (kI kp_push) (fa (kI kp_ist) (fa (kI kp_ild) (fa (kI kp_ald) (fa (kI kp_gf) (fa (kI kp_ild) (fa (kI kp_ia) (fa (kI kp_ic) (fa (kI kp_ald) (fa (kI kp_gf) (fa (kI kp_push) (fa (kI kp_ild) (fa (kI kp_bin) (fa (kI kp_push) (fa (kI kp_ild) (fa (kI kp_bin) (fa (kI kp_bin) (fa (kI kp_push) (fa (kI kp_bin) (fa (kI kp_ia) (fa (kI kp_push) (fa (kI kp_ic) (fa (kI kp_push) (fa (kI kp_go) (fa (kI kp_push) (fa (kI kp_ist) (fa (kI kp_ild) (fa (kI kp_ald) (fa (kI kp_ild) (fa (kI kp_ild) (fa (kI kp_ild) (fa (kI kp_ild) (fa (kI kp_if) (fa (kI kp_push) (fa (kI kp_go) (fa (kI kp_push) (fa kC (fa (kI kp_push) (fa (kI kp_bin) (fa (kI kp_push) (fa (kI kp_ic) f0))))))))))))))))))))))))))))))))))))))))))))))))))
set_option maxRecDepth 100000 in
set_option maxHeartbeats 4000000 in
theorem kp_R_taskOf_1 : ∀ (pc : Nat) (i : aIn), k_R_taskOf_1 pc = some i → KI pc i := lkl_ok (P := KI) (fa (kI kp_push) (fa (kI kp_go) (fa (kI kp_push) (fa (kI kp_bin) (fa (kI kp_ist) (fa (kI kp_inc) (fa (kI kp_go) (fa (kI kp_ald) (fa (kI kp_gf) (fa (kI kp_ild) (fa (kI kp_ia) (fa (kI kp_ald) (fa (kI kp_ild) (fa (kI kp_ild) (fa kC (fa (kI kp_bin) (fa (kI kp_ist) (fa (kI kp_ald) (fa (kI kp_ild) (fa (kI kp_ild) (fa kC (fa (kI kp_if) (fa (kI kp_ild) (fa (kI kp_ald) (fa (kI kp_gf) (fa (kI kp_ild) (fa (kI kp_ia) (fa (kI kp_ic) (fa (kI kp_ild) (fa (kI kp_go) (fa (kI kp_push) (fa kC f0))))))))))))))))))))))))))))))))
theorem kp_R_taskOf : ∀ (pc : Nat) (i : aIn), k_R_taskOf pc = some i → KI pc i := (lkb_ok kp_R_taskOf_1 kp_R_taskOf_0)
set_option maxRecDepth 100000 in
set_option maxHeartbeats 4000000 in
theorem kp_R_lacking : ∀ (pc : Nat) (i : aIn), k_R_lacking pc = some i → KI pc i := lkl_ok (P := KI) (fa (kI kp_ild) (fa (kI kp_ald) (fa (kI kp_gf) (fa (kI kp_ild) (fa (kI kp_ia) (fa (kI kp_div) (fa (kI kp_push) (fa (kI kp_bin) (fa (kI kp_if) (fa (kI kp_ild) (fa (kI kp_ald) (fa (kI kp_gf) (fa (kI kp_ild) (fa (kI kp_ia) (fa (kI kp_bin) (fa (kI kp_go) (fa (kI kp_ild) (fa kC f0))))))))))))))))))
set_option maxRecDepth 100000 in
set_option maxHeartbeats 4000000 in
theorem kp_R_begins_0 : ∀ (pc : Nat) (i : aIn), k_R_begins_0 pc = some i → KI pc i := lkl_ok (P := KI) (fa (kI kp_ald) (fa kC (fa (kI kp_ald) (fa kC (fa (kI kp_push) (fa (kI kp_ist) (fa (kI kp_push) (fa (kI kp_ist) (fa (kI kp_ild) (fa (kI kp_push) (fa (kI kp_ic) (fa (kI kp_ald) (fa (kI kp_gf) (fa (kI kp_ild) (fa (kI kp_ia) (fa (kI kp_if) (fa (kI kp_push) (fa (kI kp_go) (fa (kI kp_ild) (fa (kI kp_ald) (fa (kI kp_gf) (fa (kI kp_ild) (fa (kI kp_ia) (fa kC (fa (kI kp_bin) (fa (kI kp_ist) (fa (kI kp_ild) (fa (kI kp_ild) (fa (kI kp_if) (fa (kI kp_ild) (fa (kI kp_ald) (fa (kI kp_gf) (fa (kI kp_ild) (fa (kI kp_ia) (fa (kI kp_bin) (fa (kI kp_go) (fa (kI kp_push) (fa (kI kp_bin) (fa (kI kp_ist) (fa (kI kp_inc) (fa (kI kp_go) (fa (kI kp_push) (fa (kI kp_ist) (fa (kI kp_ild) (fa (kI kp_push) (fa (kI kp_ic) (fa (kI kp_ald) (fa (kI kp_gf) (fa (kI kp_push) (fa (kI kp_ild) f0))))))))))))))))))))))))))))))))))))))))))))))))))
set_option maxRecDepth 100000 in
set_option maxHeartbeats 4000000 in
theorem kp_R_begins_1 : ∀ (pc : Nat) (i : aIn), k_R_begins_1 pc = some i → KI pc i := lkl_ok (P := KI) (fa (kI kp_bin) (fa (kI kp_ild) (fa (kI kp_if) (fa (kI kp_push) (fa (kI kp_go) (fa (kI kp_push) (fa (kI kp_ias) (fa (kI kp_inc) (fa (kI kp_go) (fa (kI kp_push) (fa (kI kp_ist) (fa (kI kp_ild) (fa (kI kp_if) (fa (kI kp_push) (fa (kI kp_ist) (fa (kI kp_ild) (fa (kI kp_push) (fa (kI kp_ic) (fa (kI kp_ald) (fa (kI kp_gf) (fa (kI kp_push) (fa (kI kp_ild) (fa (kI kp_push) (fa (kI kp_bin) (fa (kI kp_bin) (fa (kI kp_ild) (fa (kI kp_bin) (fa (kI kp_ia) (fa (kI kp_ist) (fa (kI kp_push) (fa (kI kp_ist) (fa (kI kp_ild) (fa (kI kp_push) (fa (kI kp_ic) (fa (kI kp_ald) (fa (kI kp_gf) (fa (kI kp_push) (fa (kI kp_ild) (fa (kI kp_bin) (fa (kI kp_ild) (fa (kI kp_bin) (fa (kI kp_ia) (fa (kI kp_ist) (fa (kI kp_ild) (fa (kI kp_if) (fa (kI kp_push) (fa (kI kp_go) (fa (kI kp_ild) (fa (kI kp_ald) (fa (kI kp_gf) f0))))))))))))))))))))))))))))))))))))))))))))))))))
set_option maxRecDepth 100000 in
set_option maxHeartbeats 4000000 in
theorem kp_R_begins_2 : ∀ (pc : Nat) (i : aIn), k_R_begins_2 pc = some i → KI pc i := lkl_ok (P := KI) (fa (kI kp_push) (fa (kI kp_ild) (fa (kI kp_push) (fa (kI kp_bin) (fa (kI kp_bin) (fa (kI kp_ald) (fa (kI kp_ild) (fa (kI kp_ild) (fa kC (fa (kI kp_bin) (fa (kI kp_ia) (fa (kI kp_bin) (fa (kI kp_ist) (fa (kI kp_ild) (fa (kI kp_ild) (fa (kI kp_ic) (fa (kI kp_ild) (fa (kI kp_ist) (fa (kI kp_inc) (fa (kI kp_go) (fa (kI kp_ald) (fa (kI kp_gf) (fa (kI kp_push) (fa (kI kp_ild) (fa (kI kp_bin) (fa (kI kp_ild) (fa (kI kp_bin) (fa (kI kp_ild) (fa (kI kp_ias) (fa (kI kp_inc) (fa (kI kp_go) (fa (kI kp_inc) (fa (kI kp_go) (fa (kI kp_ild) (fa kC f0)))))))))))))))))))))))))))))))))))
theorem kp_R_begins : ∀ (pc : Nat) (i : aIn), k_R_begins pc = some i → KI pc i := (lkb_ok (lkb_ok kp_R_begins_2 kp_R_begins_1) kp_R_begins_0)
set_option maxRecDepth 100000 in
set_option maxHeartbeats 4000000 in
theorem kp_R_plan_0 : ∀ (pc : Nat) (i : aIn), k_R_plan_0 pc = some i → KI pc i := lkl_ok (P := KI) (fa (kI kp_ild) (fa (kI kp_i2l) (fa (kI kp_push) (fa (kI kp_push) (fa kC (fa (kI kp_if) (fa (kI kp_ild) (fa (kI kp_push) (fa (kI kp_ic) (fa (kI kp_ald) (fa (kI kp_ild) (fa kC (fa (kI kp_if) (fa (kI kp_push) (fa kC (fa (kI kp_ald) (fa (kI kp_ild) (fa kC (fa (kI kp_ist) (fa (kI kp_ald) (fa (kI kp_gf) (fa (kI kp_ild) (fa (kI kp_ia) (fa (kI kp_ist) (fa (kI kp_ild) (fa (kI kp_push) (fa (kI kp_ic) (fa (kI kp_push) (fa kC (fa (kI kp_ild) (fa (kI kp_push) (fa (kI kp_ic) (fa (kI kp_ild) (fa kC (fa (kI kp_push) (fa (kI kp_ist) (fa (kI kp_push) (fa (kI kp_ist) (fa (kI kp_ild) (fa (kI kp_ild) (fa (kI kp_ic) (fa (kI kp_push) (fa (kI kp_ist) (fa (kI kp_push) (fa (kI kp_ist) (fa (kI kp_ild) (fa (kI kp_push) (fa (kI kp_ic) (fa (kI kp_ild) (fa (kI kp_if) f0))))))))))))))))))))))))))))))))))))))))))))))))))
set_option maxRecDepth 100000 in
set_option maxHeartbeats 4000000 in
theorem kp_R_plan_1 : ∀ (pc : Nat) (i : aIn), k_R_plan_1 pc = some i → KI pc i := lkl_ok (P := KI) (fa (kI kp_ald) (fa (kI kp_gf) (fa (kI kp_push) (fa (kI kp_ild) (fa (kI kp_bin) (fa (kI kp_ild) (fa (kI kp_bin) (fa (kI kp_ia) (fa (kI kp_ist) (fa (kI kp_ild) (fa (kI kp_if) (fa (kI kp_ild) (fa (kI kp_ald) (fa (kI kp_gf) (fa (kI kp_push) (fa (kI kp_ild) (fa (kI kp_push) (fa (kI kp_bin) (fa (kI kp_bin) (fa (kI kp_ald) (fa (kI kp_ild) (fa (kI kp_ild) (fa kC (fa (kI kp_bin) (fa (kI kp_ia) (fa (kI kp_bin) (fa (kI kp_ald) (fa (kI kp_gf) (fa (kI kp_push) (fa (kI kp_ild) (fa (kI kp_bin) (fa (kI kp_ild) (fa (kI kp_bin) (fa (kI kp_ia) (fa (kI kp_ic) (fa (kI kp_ild) (fa (kI kp_ist) (fa (kI kp_inc) (fa (kI kp_go) (fa (kI kp_ild) (fa (kI kp_if) (fa (kI kp_ald) (fa (kI kp_ild) (fa (kI kp_ild) (fa kC (fa (kI kp_ist) (fa (kI kp_inc) (fa (kI kp_go) (fa (kI kp_ild) (fa kC f0))))))))))))))))))))))))))))))))))))))))))))))))))
theorem kp_R_plan : ∀ (pc : Nat) (i : aIn), k_R_plan pc = some i → KI pc i := (lkb_ok kp_R_plan_1 kp_R_plan_0)
set_option maxRecDepth 100000 in
set_option maxHeartbeats 4000000 in
theorem kp_R_sum_0 : ∀ (pc : Nat) (i : aIn), k_R_sum_0 pc = some i → KI pc i := lkl_ok (P := KI) (fa (kI kp_ald) (fa (kI kp_ild) (fa kC (fa (kI kp_if) (fa (kI kp_ild) (fa (kI kp_push) (fa (kI kp_ic) (fa (kI kp_ild) (fa kC (fa (kI kp_if) (fa (kI kp_push) (fa kC (fa (kI kp_push) (fa (kI kp_ist) (fa (kI kp_push) (fa (kI kp_ist) (fa (kI kp_ild) (fa (kI kp_push) (fa (kI kp_ic) (fa (kI kp_push) (fa (kI kp_ist) (fa (kI kp_ild) (fa (kI kp_ald) (fa (kI kp_gf) (fa (kI kp_ild) (fa (kI kp_ia) (fa (kI kp_ic) (fa (kI kp_ild) (fa (kI kp_push) (fa (kI kp_ic) (fa (kI kp_ild) (fa (kI kp_ild) (fa (kI kp_ic) (fa (kI kp_ald) (fa (kI kp_gf) (fa (kI kp_push) (fa (kI kp_ild) (fa (kI kp_bin) (fa (kI kp_push) (fa (kI kp_ild) (fa (kI kp_bin) (fa (kI kp_bin) (fa (kI kp_push) (fa (kI kp_bin) (fa (kI kp_ia) (fa (kI kp_ist) (fa (kI kp_ald) (fa (kI kp_gf) (fa (kI kp_ild) (fa (kI kp_ia) f0))))))))))))))))))))))))))))))))))))))))))))))))))
set_option maxRecDepth 100000 in
set_option maxHeartbeats 4000000 in
theorem kp_R_sum_1 : ∀ (pc : Nat) (i : aIn), k_R_sum_1 pc = some i → KI pc i := lkl_ok (P := KI) (fa (kI kp_ild) (fa (kI kp_ic) (fa (kI kp_push) (fa (kI kp_go) (fa (kI kp_push) (fa (kI kp_ist) (fa (kI kp_ald) (fa (kI kp_gf) (fa (kI kp_ild) (fa (kI kp_ia) (fa (kI kp_push) (fa (kI kp_ic) (fa (kI kp_ild) (fa (kI kp_ild) (fa (kI kp_if) (fa (kI kp_ald) (fa (kI kp_gf) (fa (kI kp_ild) (fa (kI kp_ia) (fa (kI kp_ild) (fa (kI kp_ic) (fa (kI kp_push) (fa (kI kp_go) (fa (kI kp_push) (fa (kI kp_bin) (fa (kI kp_ist) (fa (kI kp_go) (fa (kI kp_ild) (fa (kI kp_ild) (fa (kI kp_if) (fa (kI kp_push) (fa (kI kp_go) (fa (kI kp_push) (fa (kI kp_bin) (fa (kI kp_ist) (fa (kI kp_inc) (fa (kI kp_go) (fa (kI kp_inc) (fa (kI kp_go) (fa (kI kp_ild) (fa kC f0)))))))))))))))))))))))))))))))))))))))))
theorem kp_R_sum : ∀ (pc : Nat) (i : aIn), k_R_sum pc = some i → KI pc i := (lkb_ok kp_R_sum_1 kp_R_sum_0)
set_option maxRecDepth 100000 in
set_option maxHeartbeats 4000000 in
theorem kp_R_count : ∀ (pc : Nat) (i : aIn), k_R_count pc = some i → KI pc i := lkl_ok (P := KI) (fa (kI kp_ild) (fa (kI kp_sw) (fa (kI kp_ald) (fa (kI kp_gf) (fa (kI kp_push) (fa (kI kp_ia) (fa kC (fa (kI kp_ald) (fa (kI kp_gf) (fa (kI kp_push) (fa (kI kp_ia) (fa kC (fa (kI kp_ald) (fa (kI kp_gf) (fa (kI kp_push) (fa (kI kp_ia) (fa kC (fa (kI kp_ald) (fa (kI kp_gf) (fa (kI kp_push) (fa (kI kp_ia) (fa kC (fa (kI kp_ald) (fa (kI kp_gf) (fa (kI kp_push) (fa (kI kp_ia) (fa kC (fa (kI kp_ald) (fa (kI kp_gf) (fa (kI kp_push) (fa (kI kp_ia) (fa kC (fa kC (fa (kI kp_ald) (fa (kI kp_push) (fa kC (fa (kI kp_ist) (fa (kI kp_ald) (fa (kI kp_gf) (fa kC (fa (kI kp_ald) (fa (kI kp_gf) (fa kC (fa (kI kp_push) (fa kC f0)))))))))))))))))))))))))))))))))))))))))))))
set_option maxRecDepth 100000 in
set_option maxHeartbeats 4000000 in
theorem kp_R_notes : ∀ (pc : Nat) (i : aIn), k_R_notes pc = some i → KI pc i := lkl_ok (P := KI) (fa (kI kp_ald) (fa (kI kp_gf) (fa (kI kp_push) (fa (kI kp_ic) (fa (kI kp_ald) (fa (kI kp_gf) (fa (kI kp_ald) (fa (kI kp_gf) (fa (kI kp_ild) (fa (kI kp_ias) (fa (kI kp_ald) (fa (kI kp_dup) (fa (kI kp_gf) (fa (kI kp_push) (fa (kI kp_bin) (fa (kI kp_pf) (fa kC f0)))))))))))))))))
set_option maxRecDepth 100000 in
set_option maxHeartbeats 4000000 in
theorem kp_R_plainWrite : ∀ (pc : Nat) (i : aIn), k_R_plainWrite pc = some i → KI pc i := lkl_ok (P := KI) (fa (kI kp_ald) (fa (kI kp_push) (fa kC (fa (kI kp_ild) (fa (kI kp_ald) (fa (kI kp_gf) (fa (kI kp_ild) (fa (kI kp_ia) (fa (kI kp_bin) (fa kC f0))))))))))
set_option maxRecDepth 100000 in
set_option maxHeartbeats 4000000 in
theorem kp_R_formedWrite : ∀ (pc : Nat) (i : aIn), k_R_formedWrite pc = some i → KI pc i := lkl_ok (P := KI) (fa (kI kp_ald) (fa (kI kp_push) (fa kC (fa (kI kp_ald) (fa (kI kp_ild) (fa (kI kp_ild) (fa kC (fa (kI kp_ild) (fa (kI kp_bin) (fa kC f0))))))))))
set_option maxRecDepth 100000 in
set_option maxHeartbeats 4000000 in
theorem kp_R_write : ∀ (pc : Nat) (i : aIn), k_R_write pc = some i → KI pc i := lkl_ok (P := KI) (fa (kI kp_ald) (fa (kI kp_gf) (fa (kI kp_ild) (fa (kI kp_ia) (fa (kI kp_push) (fa (kI kp_ic) (fa (kI kp_ald) (fa (kI kp_push) (fa kC (fa (kI kp_ald) (fa (kI kp_ild) (fa (kI kp_ild) (fa (kI kp_ald) (fa (kI kp_gf) (fa (kI kp_ild) (fa (kI kp_ia) (fa (kI kp_bin) (fa kC (fa kC (fa (kI kp_ald) (fa (kI kp_gf) (fa (kI kp_ild) (fa (kI kp_ia) (fa (kI kp_push) (fa (kI kp_ic) (fa (kI kp_ald) (fa (kI kp_ild) (fa (kI kp_ild) (fa kC (fa (kI kp_go) (fa (kI kp_ald) (fa (kI kp_ild) (fa (kI kp_ild) (fa kC (fa kC f0)))))))))))))))))))))))))))))))))))
set_option maxRecDepth 100000 in
set_option maxHeartbeats 4000000 in
theorem kp_R_plainMove : ∀ (pc : Nat) (i : aIn), k_R_plainMove pc = some i → KI pc i := lkl_ok (P := KI) (fa (kI kp_ald) (fa (kI kp_push) (fa kC (fa (kI kp_ald) (fa (kI kp_ild) (fa (kI kp_ild) (fa kC (fa (kI kp_push) (fa (kI kp_bin) (fa kC f0))))))))))
set_option maxRecDepth 100000 in
set_option maxHeartbeats 4000000 in
theorem kp_R_move : ∀ (pc : Nat) (i : aIn), k_R_move pc = some i → KI pc i := lkl_ok (P := KI) (fa (kI kp_ald) (fa (kI kp_gf) (fa (kI kp_ild) (fa (kI kp_ia) (fa (kI kp_push) (fa (kI kp_ic) (fa (kI kp_ald) (fa (kI kp_push) (fa kC (fa (kI kp_ald) (fa (kI kp_ild) (fa (kI kp_ild) (fa kC (fa (kI kp_ild) (fa (kI kp_bin) (fa kC (fa (kI kp_ald) (fa (kI kp_gf) (fa (kI kp_ild) (fa (kI kp_ia) (fa (kI kp_push) (fa (kI kp_ic) (fa (kI kp_ald) (fa (kI kp_ild) (fa (kI kp_ild) (fa kC (fa kC (fa (kI kp_ald) (fa (kI kp_push) (fa kC (fa (kI kp_ald) (fa (kI kp_ild) (fa (kI kp_ild) (fa kC (fa (kI kp_ist) (fa (kI kp_ild) (fa (kI kp_ald) (fa (kI kp_ild) (fa (kI kp_ild) (fa kC (fa (kI kp_bin) (fa kC f0))))))))))))))))))))))))))))))))))))))))))
set_option maxRecDepth 100000 in
set_option maxHeartbeats 4000000 in
theorem kp_R_plainKnow : ∀ (pc : Nat) (i : aIn), k_R_plainKnow pc = some i → KI pc i := lkl_ok (P := KI) (fa (kI kp_ald) (fa (kI kp_push) (fa kC (fa (kI kp_ild) (fa (kI kp_ald) (fa (kI kp_gf) (fa (kI kp_ild) (fa (kI kp_ia) (fa (kI kp_bin) (fa kC f0))))))))))
set_option maxRecDepth 100000 in
set_option maxHeartbeats 4000000 in
theorem kp_R_know : ∀ (pc : Nat) (i : aIn), k_R_know pc = some i → KI pc i := lkl_ok (P := KI) (fa (kI kp_ald) (fa (kI kp_gf) (fa (kI kp_ild) (fa (kI kp_ia) (fa (kI kp_push) (fa (kI kp_ic) (fa (kI kp_ald) (fa (kI kp_ild) (fa (kI kp_ild) (fa kC (fa kC (fa (kI kp_ald) (fa (kI kp_push) (fa kC (fa (kI kp_ald) (fa (kI kp_ild) (fa (kI kp_ild) (fa kC (fa (kI kp_push) (fa (kI kp_bin) (fa kC f0)))))))))))))))))))))
set_option maxRecDepth 100000 in
set_option maxHeartbeats 4000000 in
theorem kp_R_plainFade : ∀ (pc : Nat) (i : aIn), k_R_plainFade pc = some i → KI pc i := lkl_ok (P := KI) (fa (kI kp_ald) (fa (kI kp_push) (fa kC (fa (kI kp_ald) (fa (kI kp_ild) (fa (kI kp_ild) (fa kC (fa (kI kp_ist) (fa (kI kp_ild) (fa (kI kp_ald) (fa (kI kp_ild) (fa (kI kp_ild) (fa kC (fa (kI kp_bin) (fa kC f0)))))))))))))))
set_option maxRecDepth 100000 in
set_option maxHeartbeats 4000000 in
theorem kp_R_fade : ∀ (pc : Nat) (i : aIn), k_R_fade pc = some i → KI pc i := lkl_ok (P := KI) (fa (kI kp_ald) (fa (kI kp_gf) (fa (kI kp_ild) (fa (kI kp_ia) (fa (kI kp_push) (fa (kI kp_ic) (fa (kI kp_ald) (fa (kI kp_gf) (fa (kI kp_ild) (fa (kI kp_ia) (fa (kI kp_push) (fa (kI kp_ic) (fa (kI kp_ald) (fa (kI kp_push) (fa kC (fa (kI kp_ald) (fa (kI kp_ild) (fa (kI kp_ild) (fa (kI kp_push) (fa (kI kp_bin) (fa kC (fa kC (fa (kI kp_ald) (fa (kI kp_gf) (fa (kI kp_ild) (fa (kI kp_ia) (fa (kI kp_push) (fa (kI kp_ic) (fa (kI kp_ald) (fa (kI kp_ild) (fa (kI kp_ild) (fa kC (fa kC (fa (kI kp_ald) (fa (kI kp_push) (fa kC (fa (kI kp_ald) (fa (kI kp_ild) (fa (kI kp_ild) (fa kC (fa (kI kp_ist) (fa (kI kp_ild) (fa (kI kp_ald) (fa (kI kp_ild) (fa (kI kp_ild) (fa kC (fa (kI kp_bin) (fa kC f0))))))))))))))))))))))))))))))))))))))))))))))))
set_option maxRecDepth 100000 in
set_option maxHeartbeats 4000000 in
theorem kp_R_act : ∀ (pc : Nat) (i : aIn), k_R_act pc = some i → KI pc i := lkl_ok (P := KI) (fa (kI kp_ald) (fa (kI kp_ild) (fa kC (fa (kI kp_if) (fa (kI kp_ild) (fa (kI kp_i2l) (fa (kI kp_push) (fa (kI kp_push) (fa kC (fa (kI kp_if) (fa (kI kp_ald) (fa (kI kp_push) (fa kC (fa kC (fa (kI kp_ald) (fa (kI kp_push) (fa (kI kp_pf) (fa (kI kp_ald) (fa (kI kp_ild) (fa (kI kp_if) (fa (kI kp_ald) (fa (kI kp_ild) (fa (kI kp_ild) (fa kC (fa (kI kp_go) (fa (kI kp_ild) (fa (kI kp_push) (fa (kI kp_ic) (fa (kI kp_ald) (fa (kI kp_ild) (fa (kI kp_ild) (fa kC (fa (kI kp_go) (fa (kI kp_ild) (fa (kI kp_push) (fa (kI kp_ic) (fa (kI kp_ald) (fa (kI kp_ild) (fa (kI kp_ild) (fa kC (fa (kI kp_go) (fa (kI kp_ald) (fa (kI kp_ild) (fa (kI kp_ild) (fa kC (fa kC (fa kC f0)))))))))))))))))))))))))))))))))))))))))))))))
set_option maxRecDepth 100000 in
set_option maxHeartbeats 4000000 in
theorem kp_R_trace : ∀ (pc : Nat) (i : aIn), k_R_trace pc = some i → KI pc i := lkl_ok (P := KI) (fa (kI kp_ild) (fa (kI kp_i2l) (fa (kI kp_push) (fa (kI kp_ald) (fa (kI kp_gf) (fa (kI kp_push) (fa (kI kp_ic) (fa (kI kp_ald) (fa (kI kp_gf) (fa (kI kp_go) (fa (kI kp_push) (fa (kI kp_push) (fa (kI kp_bin) (fa (kI kp_i2l) (fa kC (fa (kI kp_if) (fa (kI kp_ald) (fa (kI kp_gf) (fa (kI kp_ild) (fa (kI kp_ia) (fa (kI kp_go) (fa (kI kp_push) (fa kC f0)))))))))))))))))))))))
set_option maxRecDepth 100000 in
set_option maxHeartbeats 4000000 in
theorem kp_R_sheet : ∀ (pc : Nat) (i : aIn), k_R_sheet pc = some i → KI pc i := lkl_ok (P := KI) (fa (kI kp_ild) (fa (kI kp_i2l) (fa (kI kp_push) (fa (kI kp_push) (fa kC (fa (kI kp_if) (fa (kI kp_ild) (fa (kI kp_i2l) (fa (kI kp_push) (fa (kI kp_push) (fa kC (fa (kI kp_if) (fa (kI kp_ild) (fa (kI kp_if) (fa (kI kp_ild) (fa (kI kp_i2l) (fa (kI kp_push) (fa (kI kp_push) (fa kC (fa (kI kp_if) (fa (kI kp_ald) (fa (kI kp_push) (fa kC (fa kC (fa (kI kp_ald) (fa (kI kp_gf) (fa (kI kp_ild) (fa (kI kp_ild) (fa (kI kp_push) (fa (kI kp_bin) (fa (kI kp_ias) (fa (kI kp_ald) (fa (kI kp_gf) (fa (kI kp_ild) (fa (kI kp_ild) (fa (kI kp_if) (fa (kI kp_push) (fa (kI kp_go) (fa (kI kp_ild) (fa (kI kp_ias) (fa (kI kp_push) (fa (kI kp_ild) (fa (kI kp_bin) (fa (kI kp_ist) (fa (kI kp_ild) (fa (kI kp_push) (fa (kI kp_ild) (fa (kI kp_bin) (fa (kI kp_push) (fa (kI kp_bin) (fa (kI kp_ic) (fa (kI kp_ald) (fa (kI kp_gf) (fa (kI kp_ild) (fa (kI kp_push) (fa (kI kp_ias) (fa (kI kp_inc) (fa (kI kp_go) (fa (kI kp_ald) (fa (kI kp_push) (fa kC (fa kC f0))))))))))))))))))))))))))))))))))))))))))))))))))))))))))))))
set_option maxRecDepth 100000 in
set_option maxHeartbeats 4000000 in
theorem kp_R_byteOf : ∀ (pc : Nat) (i : aIn), k_R_byteOf pc = some i → KI pc i := lkl_ok (P := KI) (fa (kI kp_ild) (fa (kI kp_push) (fa (kI kp_bin) (fa (kI kp_ist) (fa (kI kp_ild) (fa (kI kp_push) (fa (kI kp_ic) (fa (kI kp_ild) (fa (kI kp_push) (fa (kI kp_bin) (fa (kI kp_go) (fa (kI kp_ild) (fa kC f0)))))))))))))
set_option maxRecDepth 100000 in
set_option maxHeartbeats 4000000 in
theorem kp_R_cell : ∀ (pc : Nat) (i : aIn), k_R_cell pc = some i → KI pc i := lkl_ok (P := KI) (fa (kI kp_ild) (fa (kI kp_i2l) (fa (kI kp_push) (fa (kI kp_push) (fa kC (fa (kI kp_if) (fa (kI kp_ild) (fa (kI kp_i2l) (fa (kI kp_push) (fa (kI kp_push) (fa kC (fa (kI kp_if) (fa (kI kp_ald) (fa (kI kp_push) (fa kC (fa kC (fa (kI kp_ald) (fa (kI kp_gf) (fa (kI kp_ild) (fa (kI kp_ia) (fa (kI kp_if) (fa (kI kp_ald) (fa (kI kp_push) (fa kC (fa kC (fa (kI kp_ild) (fa (kI kp_i2l) (fa (kI kp_push) (fa (kI kp_ald) (fa (kI kp_gf) (fa (kI kp_ild) (fa (kI kp_ia) (fa (kI kp_push) (fa (kI kp_bin) (fa (kI kp_i2l) (fa kC (fa (kI kp_if) (fa (kI kp_ald) (fa (kI kp_push) (fa kC (fa kC (fa (kI kp_ald) (fa (kI kp_gf) (fa (kI kp_push) (fa (kI kp_ild) (fa (kI kp_bin) (fa (kI kp_ild) (fa (kI kp_bin) (fa (kI kp_ald) (fa (kI kp_gf) (fa (kI kp_ild) (fa (kI kp_ia) (fa (kI kp_push) (fa (kI kp_ic) (fa (kI kp_ild) (fa kC (fa (kI kp_go) (fa (kI kp_ild) (fa (kI kp_ias) (fa (kI kp_ald) (fa (kI kp_push) (fa kC (fa kC f0)))))))))))))))))))))))))))))))))))))))))))))))))))))))))))))))
set_option maxRecDepth 100000 in
set_option maxHeartbeats 4000000 in
theorem kp_R_come_0 : ∀ (pc : Nat) (i : aIn), k_R_come_0 pc = some i → KI pc i := lkl_ok (P := KI) (fa (kI kp_ild) (fa (kI kp_i2l) (fa (kI kp_push) (fa (kI kp_push) (fa kC (fa (kI kp_if) (fa (kI kp_ild) (fa (kI kp_i2l) (fa (kI kp_push) (fa (kI kp_push) (fa kC (fa (kI kp_if) (fa (kI kp_ald) (fa (kI kp_push) (fa kC (fa kC (fa (kI kp_ald) (fa (kI kp_gf) (fa (kI kp_ild) (fa (kI kp_ia) (fa (kI kp_if) (fa (kI kp_ald) (fa (kI kp_push) (fa kC (fa kC (fa (kI kp_ald) (fa (kI kp_gf) (fa (kI kp_ild) (fa (kI kp_ia) (fa (kI kp_ild) (fa (kI kp_push) (fa (kI kp_bin) (fa (kI kp_ic) (fa (kI kp_ald) (fa (kI kp_push) (fa kC (fa kC (fa (kI kp_ald) (fa (kI kp_gf) (fa (kI kp_ild) (fa (kI kp_ia) (fa (kI kp_ist) (fa (kI kp_ild) (fa (kI kp_push) (fa (kI kp_ic) (fa (kI kp_ald) (fa (kI kp_push) (fa kC (fa kC (fa (kI kp_push) f0))))))))))))))))))))))))))))))))))))))))))))))))))
set_option maxRecDepth 100000 in
set_option maxHeartbeats 4000000 in
theorem kp_R_come_1 : ∀ (pc : Nat) (i : aIn), k_R_come_1 pc = some i → KI pc i := lkl_ok (P := KI) (fa (kI kp_ist) (fa (kI kp_ild) (fa (kI kp_ild) (fa (kI kp_ic) (fa (kI kp_ald) (fa (kI kp_gf) (fa (kI kp_push) (fa (kI kp_ild) (fa (kI kp_bin) (fa (kI kp_ild) (fa (kI kp_bin) (fa (kI kp_ia) (fa (kI kp_i2l) (fa (kI kp_push) (fa (kI kp_push) (fa kC (fa (kI kp_if) (fa (kI kp_ald) (fa (kI kp_push) (fa kC (fa kC (fa (kI kp_inc) (fa (kI kp_go) (fa (kI kp_push) (fa (kI kp_ist) (fa (kI kp_ild) (fa (kI kp_ild) (fa (kI kp_ic) (fa (kI kp_ald) (fa (kI kp_gf) (fa (kI kp_ild) (fa (kI kp_ald) (fa (kI kp_gf) (fa (kI kp_push) (fa (kI kp_ild) (fa (kI kp_bin) (fa (kI kp_ild) (fa (kI kp_bin) (fa (kI kp_ia) (fa (kI kp_ias) (fa (kI kp_inc) (fa (kI kp_go) (fa (kI kp_ald) (fa (kI kp_gf) (fa (kI kp_push) (fa (kI kp_ild) (fa (kI kp_ias) (fa (kI kp_ald) (fa (kI kp_ild) (fa kC f0))))))))))))))))))))))))))))))))))))))))))))))))))
set_option maxRecDepth 100000 in
set_option maxHeartbeats 4000000 in
theorem kp_R_come_2 : ∀ (pc : Nat) (i : aIn), k_R_come_2 pc = some i → KI pc i := lkl_ok (P := KI) (fa kC f0)
theorem kp_R_come : ∀ (pc : Nat) (i : aIn), k_R_come pc = some i → KI pc i := (lkb_ok (lkb_ok kp_R_come_2 kp_R_come_1) kp_R_come_0)
set_option maxRecDepth 100000 in
set_option maxHeartbeats 4000000 in
theorem kp_R_modulo : ∀ (pc : Nat) (i : aIn), k_R_modulo pc = some i → KI pc i := lkl_ok (P := KI) (fa (kI kp_ild) (fa (kI kp_ild) (fa (kI kp_rem) (fa (kI kp_ild) (fa (kI kp_bin) (fa (kI kp_ild) (fa (kI kp_rem) (fa kC f0))))))))
set_option maxRecDepth 100000 in
set_option maxHeartbeats 4000000 in
theorem kp_R_forge_0 : ∀ (pc : Nat) (i : aIn), k_R_forge_0 pc = some i → KI pc i := lkl_ok (P := KI) (fa (kI kp_ild) (fa (kI kp_i2l) (fa (kI kp_push) (fa (kI kp_push) (fa kC (fa (kI kp_if) (fa (kI kp_ild) (fa (kI kp_i2l) (fa (kI kp_push) (fa (kI kp_push) (fa kC (fa (kI kp_if) (fa (kI kp_ild) (fa (kI kp_i2l) (fa (kI kp_push) (fa (kI kp_push) (fa kC (fa (kI kp_if) (fa (kI kp_ald) (fa (kI kp_push) (fa kC (fa kC (fa (kI kp_ild) (fa (kI kp_push) (fa kC (fa (kI kp_ist) (fa (kI kp_ild) (fa (kI kp_push) (fa kC (fa (kI kp_ist) (fa (kI kp_ild) (fa (kI kp_sw) (fa (kI kp_ild) (fa (kI kp_push) (fa kC (fa (kI kp_ist) (fa (kI kp_ald) (fa (kI kp_ild) (fa kC (fa (kI kp_if) (fa (kI kp_ald) (fa (kI kp_push) (fa kC (fa kC (fa (kI kp_ild) (fa (kI kp_if) (fa (kI kp_ald) (fa (kI kp_gf) (fa (kI kp_ild) (fa (kI kp_ia) f0))))))))))))))))))))))))))))))))))))))))))))))))))
set_option maxRecDepth 100000 in
set_option maxHeartbeats 4000000 in
theorem kp_R_forge_1 : ∀ (pc : Nat) (i : aIn), k_R_forge_1 pc = some i → KI pc i := lkl_ok (P := KI) (fa (kI kp_ild) (fa (kI kp_ic) (fa (kI kp_ild) (fa (kI kp_push) (fa (kI kp_ic) (fa (kI kp_ald) (fa (kI kp_gf) (fa (kI kp_ild) (fa (kI kp_ia) (fa (kI kp_push) (fa (kI kp_ic) (fa (kI kp_push) (fa (kI kp_go) (fa (kI kp_push) (fa (kI kp_ist) (fa (kI kp_ild) (fa (kI kp_if) (fa (kI kp_ald) (fa (kI kp_ald) (fa (kI kp_gf) (fa (kI kp_ild) (fa (kI kp_ia) (fa kC (fa (kI kp_go) (fa (kI kp_ald) (fa (kI kp_push) (fa kC (fa kC (fa (kI kp_ild) (fa (kI kp_if) (fa (kI kp_ald) (fa (kI kp_push) (fa kC (fa (kI kp_go) (fa (kI kp_ald) (fa (kI kp_ild) (fa kC (fa kC (fa (kI kp_ald) (fa (kI kp_gf) (fa (kI kp_ild) (fa (kI kp_ia) (fa (kI kp_if) (fa (kI kp_ald) (fa (kI kp_push) (fa kC (fa kC (fa (kI kp_ald) (fa (kI kp_gf) (fa (kI kp_ild) f0))))))))))))))))))))))))))))))))))))))))))))))))))
set_option maxRecDepth 100000 in
set_option maxHeartbeats 4000000 in
theorem kp_R_forge_2 : ∀ (pc : Nat) (i : aIn), k_R_forge_2 pc = some i → KI pc i := lkl_ok (P := KI) (fa (kI kp_ia) (fa (kI kp_push) (fa (kI kp_ic) (fa (kI kp_ald) (fa (kI kp_push) (fa kC (fa kC (fa (kI kp_ild) (fa (kI kp_i2l) (fa (kI kp_push) (fa (kI kp_ald) (fa (kI kp_gf) (fa (kI kp_ild) (fa (kI kp_ia) (fa (kI kp_push) (fa (kI kp_bin) (fa (kI kp_i2l) (fa kC (fa (kI kp_if) (fa (kI kp_ald) (fa (kI kp_ald) (fa (kI kp_gf) (fa (kI kp_push) (fa (kI kp_ild) (fa (kI kp_bin) (fa (kI kp_ild) (fa (kI kp_bin) (fa (kI kp_ia) (fa kC (fa (kI kp_go) (fa (kI kp_ald) (fa (kI kp_push) (fa kC (fa kC (fa (kI kp_ald) (fa (kI kp_ild) (fa (kI kp_ild) (fa kC (fa kC (fa (kI kp_ald) (fa (kI kp_ild) (fa kC (fa (kI kp_if) (fa (kI kp_ald) (fa (kI kp_push) (fa kC (fa kC (fa (kI kp_ald) (fa (kI kp_gf) (fa (kI kp_ild) f0))))))))))))))))))))))))))))))))))))))))))))))))))
set_option maxRecDepth 100000 in
set_option maxHeartbeats 4000000 in
theorem kp_R_forge_3 : ∀ (pc : Nat) (i : aIn), k_R_forge_3 pc = some i → KI pc i := lkl_ok (P := KI) (fa (kI kp_ia) (fa (kI kp_push) (fa (kI kp_ic) (fa (kI kp_ald) (fa (kI kp_gf) (fa (kI kp_ild) (fa (kI kp_ia) (fa (kI kp_push) (fa (kI kp_ic) (fa (kI kp_ald) (fa (kI kp_ald) (fa (kI kp_gf) (fa (kI kp_ild) (fa (kI kp_ia) (fa kC (fa (kI kp_go) (fa (kI kp_ald) (fa (kI kp_push) (fa kC (fa kC (fa (kI kp_ild) (fa (kI kp_if) (fa (kI kp_ald) (fa (kI kp_push) (fa kC (fa (kI kp_go) (fa (kI kp_ald) (fa (kI kp_push) (fa (kI kp_ild) (fa (kI kp_div) (fa kC (fa kC (fa (kI kp_ild) (fa (kI kp_push) (fa kC (fa (kI kp_if) (fa (kI kp_ald) (fa (kI kp_push) (fa kC (fa (kI kp_go) (fa (kI kp_ald) (fa (kI kp_push) (fa kC (fa kC f0))))))))))))))))))))))))))))))))))))))))))))
theorem kp_R_forge : ∀ (pc : Nat) (i : aIn), k_R_forge pc = some i → KI pc i := (lkb_ok (lkb_ok kp_R_forge_3 kp_R_forge_2) (lkb_ok kp_R_forge_1 kp_R_forge_0))
set_option maxRecDepth 100000 in
set_option maxHeartbeats 4000000 in
theorem kp_R_copied : ∀ (pc : Nat) (i : aIn), k_R_copied pc = some i → KI pc i := lkl_ok (P := KI) (fa (kI kp_ald) (fa (kI kp_gf) (fa (kI kp_ild) (fa (kI kp_ia) (fa (kI kp_if) (fa (kI kp_ald) (fa (kI kp_push) (fa kC (fa kC (fa (kI kp_ald) (fa (kI kp_gf) (fa (kI kp_ild) (fa (kI kp_ia) (fa (kI kp_push) (fa (kI kp_ic) (fa (kI kp_ald) (fa (kI kp_push) (fa kC (fa kC (fa (kI kp_ild) (fa (kI kp_if) (fa (kI kp_ild) (fa (kI kp_push) (fa (kI kp_bin) (fa (kI kp_ald) (fa (kI kp_gf) (fa (kI kp_ild) (fa (kI kp_ia) (fa (kI kp_ic) (fa (kI kp_ild) (fa (kI kp_ild) (fa (kI kp_bin) (fa (kI kp_push) (fa (kI kp_ic) (fa (kI kp_ald) (fa (kI kp_push) (fa kC (fa kC (fa (kI kp_push) (fa (kI kp_ist) (fa (kI kp_push) (fa (kI kp_ist) (fa (kI kp_ild) (fa (kI kp_ild) (fa (kI kp_ic) (fa (kI kp_ild) (fa (kI kp_ald) (fa (kI kp_gf) (fa (kI kp_push) (fa (kI kp_ild) (fa (kI kp_bin) (fa (kI kp_ild) (fa (kI kp_bin) (fa (kI kp_ia) (fa (kI kp_bin) (fa (kI kp_ist) (fa (kI kp_inc) (fa (kI kp_go) (fa (kI kp_ald) (fa (kI kp_ild) (fa kC (fa kC f0))))))))))))))))))))))))))))))))))))))))))))))))))))))))))))))
set_option maxRecDepth 100000 in
set_option maxHeartbeats 4000000 in
theorem kp_R_status : ∀ (pc : Nat) (i : aIn), k_R_status pc = some i → KI pc i := lkl_ok (P := KI) (fa (kI kp_ald) (fa (kI kp_gf) (fa kC f0)))
set_option maxRecDepth 100000 in
set_option maxHeartbeats 4000000 in
theorem kp_J_lowestOneBit : ∀ (pc : Nat) (i : aIn), k_J_lowestOneBit pc = some i → KI pc i := lkl_ok (P := KI) (fa (kI kp_ild) (fa (kI kp_ild) (fa (kI kp_neg) (fa (kI kp_bin) (fa kC f0)))))
set_option maxRecDepth 100000 in
set_option maxHeartbeats 4000000 in
theorem kp_J_bitCount : ∀ (pc : Nat) (i : aIn), k_J_bitCount pc = some i → KI pc i := lkl_ok (P := KI) (fa (kI kp_ild) (fa (kI kp_ild) (fa (kI kp_push) (fa (kI kp_bin) (fa (kI kp_push) (fa (kI kp_bin) (fa (kI kp_bin) (fa (kI kp_ist) (fa (kI kp_ild) (fa (kI kp_push) (fa (kI kp_bin) (fa (kI kp_ild) (fa (kI kp_push) (fa (kI kp_bin) (fa (kI kp_push) (fa (kI kp_bin) (fa (kI kp_bin) (fa (kI kp_ist) (fa (kI kp_ild) (fa (kI kp_ild) (fa (kI kp_push) (fa (kI kp_bin) (fa (kI kp_bin) (fa (kI kp_push) (fa (kI kp_bin) (fa (kI kp_ist) (fa (kI kp_ild) (fa (kI kp_ild) (fa (kI kp_push) (fa (kI kp_bin) (fa (kI kp_bin) (fa (kI kp_ist) (fa (kI kp_ild) (fa (kI kp_ild) (fa (kI kp_push) (fa (kI kp_bin) (fa (kI kp_bin) (fa (kI kp_ist) (fa (kI kp_ild) (fa (kI kp_push) (fa (kI kp_bin) (fa kC f0))))))))))))))))))))))))))))))))))))))))))
set_option maxRecDepth 100000 in
set_option maxHeartbeats 4000000 in
theorem kp_J_floorMod : ∀ (pc : Nat) (i : aIn), k_J_floorMod pc = some i → KI pc i := lkl_ok (P := KI) (fa (kI kp_ild) (fa (kI kp_ild) (fa (kI kp_rem) (fa (kI kp_ist) (fa (kI kp_ild) (fa (kI kp_ild) (fa (kI kp_bin) (fa (kI kp_if) (fa (kI kp_ild) (fa (kI kp_if) (fa (kI kp_ild) (fa (kI kp_ild) (fa (kI kp_bin) (fa kC (fa (kI kp_ild) (fa kC f0))))))))))))))))
set_option maxRecDepth 100000 in
set_option maxHeartbeats 4000000 in
theorem kp_J_max : ∀ (pc : Nat) (i : aIn), k_J_max pc = some i → KI pc i := lkl_ok (P := KI) (fa (kI kp_ild) (fa (kI kp_ild) (fa (kI kp_ic) (fa (kI kp_ild) (fa (kI kp_go) (fa (kI kp_ild) (fa kC f0)))))))
set_option maxRecDepth 100000 in
set_option maxHeartbeats 4000000 in
theorem kp_J_min : ∀ (pc : Nat) (i : aIn), k_J_min pc = some i → KI pc i := lkl_ok (P := KI) (fa (kI kp_ild) (fa (kI kp_ild) (fa (kI kp_ic) (fa (kI kp_ild) (fa (kI kp_go) (fa (kI kp_ild) (fa kC f0)))))))
set_option maxRecDepth 100000 in
set_option maxHeartbeats 4000000 in
theorem kp_J_fill : ∀ (pc : Nat) (i : aIn), k_J_fill pc = some i → KI pc i := lkl_ok (P := KI) (fa (kI kp_push) (fa (kI kp_ist) (fa (kI kp_ald) (fa (kI kp_len) (fa (kI kp_ist) (fa (kI kp_ild) (fa (kI kp_ild) (fa (kI kp_ic) (fa (kI kp_ald) (fa (kI kp_ild) (fa (kI kp_ild) (fa (kI kp_ias) (fa (kI kp_inc) (fa (kI kp_go) (fa kC f0)))))))))))))))
set_option maxRecDepth 100000 in
set_option maxHeartbeats 4000000 in
theorem kp_W_law_0 : ∀ (pc : Nat) (i : aIn), k_W_law_0 pc = some i → KI pc i := lkl_ok (P := KI) (fa (kI kp_new) (fa (kI kp_dup) (fa kC (fa (kI kp_ast) (fa (kI kp_new) (fa (kI kp_dup) (fa kC (fa (kI kp_ast) (fa (kI kp_push) (fa (kI kp_ist) (fa (kI kp_ild) (fa (kI kp_ald) (fa (kI kp_len) (fa (kI kp_push) (fa (kI kp_bin) (fa (kI kp_ic) (fa (kI kp_ald) (fa (kI kp_ild) (fa (kI kp_ia) (fa (kI kp_push) (fa (kI kp_bin) (fa (kI kp_sw) (fa (kI kp_ald) (fa (kI kp_ald) (fa (kI kp_ild) (fa (kI kp_push) (fa (kI kp_bin) (fa (kI kp_ia) (fa kC (fa (kI kp_ald) (fa (kI kp_ald) (fa (kI kp_ild) (fa (kI kp_push) (fa (kI kp_bin) (fa (kI kp_ia) (fa kC (fa (kI kp_ic) (fa (kI kp_push) (fa kC (fa (kI kp_ald) (fa (kI kp_ald) (fa (kI kp_ild) (fa (kI kp_push) (fa (kI kp_bin) (fa (kI kp_ia) (fa (kI kp_ald) (fa (kI kp_ild) (fa (kI kp_push) (fa (kI kp_bin) (fa (kI kp_ia) f0))))))))))))))))))))))))))))))))))))))))))))))))))
set_option maxRecDepth 100000 in
set_option maxHeartbeats 4000000 in
theorem kp_W_law_1 : ∀ (pc : Nat) (i : aIn), k_W_law_1 pc = some i → KI pc i := lkl_ok (P := KI) (fa (kI kp_if) (fa (kI kp_push) (fa (kI kp_go) (fa (kI kp_push) (fa kC (fa (kI kp_ald) (fa (kI kp_ald) (fa (kI kp_ild) (fa (kI kp_push) (fa (kI kp_bin) (fa (kI kp_ia) (fa (kI kp_ald) (fa (kI kp_ild) (fa (kI kp_push) (fa (kI kp_bin) (fa (kI kp_ia) (fa (kI kp_if) (fa (kI kp_push) (fa (kI kp_go) (fa (kI kp_push) (fa kC (fa (kI kp_ic) (fa (kI kp_push) (fa kC (fa (kI kp_ald) (fa (kI kp_ald) (fa (kI kp_ild) (fa (kI kp_push) (fa (kI kp_bin) (fa (kI kp_ia) (fa kC (fa (kI kp_ald) (fa (kI kp_ald) (fa (kI kp_ild) (fa (kI kp_push) (fa (kI kp_bin) (fa (kI kp_ia) (fa kC (fa (kI kp_ic) (fa (kI kp_push) (fa kC (fa (kI kp_ald) (fa (kI kp_ald) (fa (kI kp_ild) (fa (kI kp_push) (fa (kI kp_bin) (fa (kI kp_ia) (fa kC (fa (kI kp_ald) (fa (kI kp_ald) f0))))))))))))))))))))))))))))))))))))))))))))))))))
set_option maxRecDepth 100000 in
set_option maxHeartbeats 4000000 in
theorem kp_W_law_2 : ∀ (pc : Nat) (i : aIn), k_W_law_2 pc = some i → KI pc i := lkl_ok (P := KI) (fa (kI kp_ild) (fa (kI kp_push) (fa (kI kp_bin) (fa (kI kp_ia) (fa kC (fa (kI kp_ic) (fa (kI kp_push) (fa kC (fa (kI kp_ald) (fa (kI kp_ald) (fa (kI kp_ild) (fa (kI kp_push) (fa (kI kp_bin) (fa (kI kp_ia) (fa kC (fa (kI kp_ald) (fa (kI kp_ald) (fa (kI kp_ild) (fa (kI kp_push) (fa (kI kp_bin) (fa (kI kp_ia) (fa kC (fa (kI kp_ic) (fa (kI kp_push) (fa kC (fa (kI kp_ald) (fa kC (fa (kI kp_ald) (fa kC (fa (kI kp_ic) (fa (kI kp_push) (fa kC (fa (kI kp_ald) (fa (kI kp_ald) (fa (kI kp_ild) (fa (kI kp_push) (fa (kI kp_bin) (fa (kI kp_ia) (fa (kI kp_ald) (fa (kI kp_ild) (fa (kI kp_push) (fa (kI kp_bin) (fa (kI kp_ia) (fa (kI kp_ald) (fa (kI kp_ild) (fa (kI kp_push) (fa (kI kp_bin) (fa (kI kp_ia) (fa (kI kp_ald) (fa (kI kp_ild) f0))))))))))))))))))))))))))))))))))))))))))))))))))
set_option maxRecDepth 100000 in
set_option maxHeartbeats 4000000 in
theorem kp_W_law_3 : ∀ (pc : Nat) (i : aIn), k_W_law_3 pc = some i → KI pc i := lkl_ok (P := KI) (fa (kI kp_push) (fa (kI kp_bin) (fa (kI kp_ia) (fa kC (fa (kI kp_ald) (fa (kI kp_ald) (fa (kI kp_ild) (fa (kI kp_push) (fa (kI kp_bin) (fa (kI kp_ia) (fa (kI kp_ald) (fa (kI kp_ild) (fa (kI kp_push) (fa (kI kp_bin) (fa (kI kp_ia) (fa (kI kp_ald) (fa (kI kp_ild) (fa (kI kp_push) (fa (kI kp_bin) (fa (kI kp_ia) (fa (kI kp_ald) (fa (kI kp_ild) (fa (kI kp_push) (fa (kI kp_bin) (fa (kI kp_ia) (fa kC (fa (kI kp_ic) (fa (kI kp_push) (fa kC (fa (kI kp_ald) (fa (kI kp_ald) (fa (kI kp_ild) (fa (kI kp_push) (fa (kI kp_bin) (fa (kI kp_ia) (fa (kI kp_ald) (fa (kI kp_ild) (fa (kI kp_push) (fa (kI kp_bin) (fa (kI kp_ia) (fa kC (fa (kI kp_ald) (fa (kI kp_ald) (fa (kI kp_ild) (fa (kI kp_push) (fa (kI kp_bin) (fa (kI kp_ia) (fa (kI kp_ald) (fa (kI kp_ild) (fa (kI kp_push) f0))))))))))))))))))))))))))))))))))))))))))))))))))
set_option maxRecDepth 100000 in
set_option maxHeartbeats 4000000 in
theorem kp_W_law_4 : ∀ (pc : Nat) (i : aIn), k_W_law_4 pc = some i → KI pc i := lkl_ok (P := KI) (fa (kI kp_bin) (fa (kI kp_ia) (fa kC (fa (kI kp_ic) (fa (kI kp_push) (fa kC (fa (kI kp_ald) (fa (kI kp_ald) (fa (kI kp_ild) (fa (kI kp_push) (fa (kI kp_bin) (fa (kI kp_ia) (fa (kI kp_ald) (fa (kI kp_ild) (fa (kI kp_push) (fa (kI kp_bin) (fa (kI kp_ia) (fa (kI kp_ald) (fa (kI kp_ild) (fa (kI kp_push) (fa (kI kp_bin) (fa (kI kp_ia) (fa (kI kp_ald) (fa (kI kp_ild) (fa (kI kp_push) (fa (kI kp_bin) (fa (kI kp_ia) (fa kC (fa (kI kp_ald) (fa (kI kp_ald) (fa (kI kp_ild) (fa (kI kp_push) (fa (kI kp_bin) (fa (kI kp_ia) (fa (kI kp_ald) (fa (kI kp_ild) (fa (kI kp_push) (fa (kI kp_bin) (fa (kI kp_ia) (fa (kI kp_ald) (fa (kI kp_ild) (fa (kI kp_push) (fa (kI kp_bin) (fa (kI kp_ia) (fa (kI kp_ald) (fa (kI kp_ild) (fa (kI kp_push) (fa (kI kp_bin) (fa (kI kp_ia) (fa kC f0))))))))))))))))))))))))))))))))))))))))))))))))))
set_option maxRecDepth 100000 in
set_option maxHeartbeats 4000000 in
theorem kp_W_law_5 : ∀ (pc : Nat) (i : aIn), k_W_law_5 pc = some i → KI pc i := lkl_ok (P := KI) (fa (kI kp_ic) (fa (kI kp_push) (fa kC (fa (kI kp_ald) (fa kC (fa (kI kp_ald) (fa kC (fa (kI kp_ic) (fa (kI kp_push) (fa kC (fa (kI kp_ald) (fa kC (fa (kI kp_ald) (fa kC (fa (kI kp_ic) (fa (kI kp_push) (fa kC (fa (kI kp_ald) (fa (kI kp_ald) (fa (kI kp_ild) (fa (kI kp_push) (fa (kI kp_bin) (fa (kI kp_ia) (fa kC (fa (kI kp_ald) (fa (kI kp_ald) (fa (kI kp_ild) (fa (kI kp_push) (fa (kI kp_bin) (fa (kI kp_ia) (fa kC (fa (kI kp_ic) (fa (kI kp_push) (fa kC (fa (kI kp_ald) (fa (kI kp_ald) (fa (kI kp_ild) (fa (kI kp_push) (fa (kI kp_bin) (fa (kI kp_ia) (fa (kI kp_ald) (fa (kI kp_ild) (fa (kI kp_push) (fa (kI kp_bin) (fa (kI kp_ia) (fa (kI kp_ald) (fa (kI kp_ild) (fa (kI kp_push) (fa (kI kp_bin) (fa (kI kp_ia) f0))))))))))))))))))))))))))))))))))))))))))))))))))
set_option maxRecDepth 100000 in
set_option maxHeartbeats 4000000 in
theorem kp_W_law_6 : ∀ (pc : Nat) (i : aIn), k_W_law_6 pc = some i → KI pc i := lkl_ok (P := KI) (fa kC (fa (kI kp_ald) (fa (kI kp_ald) (fa (kI kp_ild) (fa (kI kp_push) (fa (kI kp_bin) (fa (kI kp_ia) (fa (kI kp_ald) (fa (kI kp_ild) (fa (kI kp_push) (fa (kI kp_bin) (fa (kI kp_ia) (fa (kI kp_ald) (fa (kI kp_ild) (fa (kI kp_push) (fa (kI kp_bin) (fa (kI kp_ia) (fa kC (fa (kI kp_ic) (fa (kI kp_push) (fa kC (fa (kI kp_ald) (fa (kI kp_ald) (fa (kI kp_ild) (fa (kI kp_push) (fa (kI kp_bin) (fa (kI kp_ia) (fa (kI kp_ald) (fa (kI kp_ild) (fa (kI kp_push) (fa (kI kp_bin) (fa (kI kp_ia) (fa (kI kp_ald) (fa (kI kp_ild) (fa (kI kp_push) (fa (kI kp_bin) (fa (kI kp_ia) (fa (kI kp_ald) (fa (kI kp_ild) (fa (kI kp_push) (fa (kI kp_bin) (fa (kI kp_ia) (fa kC (fa (kI kp_ald) (fa (kI kp_ald) (fa (kI kp_ild) (fa (kI kp_push) (fa (kI kp_bin) (fa (kI kp_ia) (fa (kI kp_ald) f0))))))))))))))))))))))))))))))))))))))))))))))))))
set_option maxRecDepth 100000 in
set_option maxHeartbeats 4000000 in
theorem kp_W_law_7 : ∀ (pc : Nat) (i : aIn), k_W_law_7 pc = some i → KI pc i := lkl_ok (P := KI) (fa (kI kp_ild) (fa (kI kp_push) (fa (kI kp_bin) (fa (kI kp_ia) (fa (kI kp_ald) (fa (kI kp_ild) (fa (kI kp_push) (fa (kI kp_bin) (fa (kI kp_ia) (fa (kI kp_ald) (fa (kI kp_ild) (fa (kI kp_push) (fa (kI kp_bin) (fa (kI kp_ia) (fa kC (fa (kI kp_ic) (fa (kI kp_push) (fa kC (fa (kI kp_ald) (fa (kI kp_ald) (fa (kI kp_ild) (fa (kI kp_push) (fa (kI kp_bin) (fa (kI kp_ia) (fa (kI kp_ald) (fa (kI kp_ild) (fa (kI kp_push) (fa (kI kp_bin) (fa (kI kp_ia) (fa kC (fa (kI kp_ald) (fa (kI kp_ald) (fa (kI kp_ild) (fa (kI kp_push) (fa (kI kp_bin) (fa (kI kp_ia) (fa (kI kp_ald) (fa (kI kp_ild) (fa (kI kp_push) (fa (kI kp_bin) (fa (kI kp_ia) (fa kC (fa (kI kp_ic) (fa (kI kp_push) (fa kC (fa (kI kp_ald) (fa (kI kp_ald) (fa (kI kp_ild) (fa (kI kp_push) (fa (kI kp_bin) f0))))))))))))))))))))))))))))))))))))))))))))))))))
set_option maxRecDepth 100000 in
set_option maxHeartbeats 4000000 in
theorem kp_W_law_8 : ∀ (pc : Nat) (i : aIn), k_W_law_8 pc = some i → KI pc i := lkl_ok (P := KI) (fa (kI kp_ia) (fa (kI kp_ald) (fa (kI kp_ild) (fa (kI kp_push) (fa (kI kp_bin) (fa (kI kp_ia) (fa (kI kp_ald) (fa (kI kp_ild) (fa (kI kp_push) (fa (kI kp_bin) (fa (kI kp_ia) (fa kC (fa (kI kp_ald) (fa (kI kp_ald) (fa (kI kp_ild) (fa (kI kp_push) (fa (kI kp_bin) (fa (kI kp_ia) (fa (kI kp_ald) (fa (kI kp_ild) (fa (kI kp_push) (fa (kI kp_bin) (fa (kI kp_ia) (fa (kI kp_ald) (fa (kI kp_ild) (fa (kI kp_push) (fa (kI kp_bin) (fa (kI kp_ia) (fa kC (fa (kI kp_ic) (fa (kI kp_push) (fa kC (fa (kI kp_ald) (fa (kI kp_ald) (fa (kI kp_ild) (fa (kI kp_push) (fa (kI kp_bin) (fa (kI kp_ia) (fa (kI kp_ald) (fa (kI kp_ild) (fa (kI kp_push) (fa (kI kp_bin) (fa (kI kp_ia) (fa kC (fa (kI kp_ald) (fa (kI kp_ald) (fa (kI kp_ild) (fa (kI kp_push) (fa (kI kp_bin) (fa (kI kp_ia) f0))))))))))))))))))))))))))))))))))))))))))))))))))
set_option maxRecDepth 100000 in
set_option maxHeartbeats 4000000 in
theorem kp_W_law_9 : ∀ (pc : Nat) (i : aIn), k_W_law_9 pc = some i → KI pc i := lkl_ok (P := KI) (fa (kI kp_ald) (fa (kI kp_ild) (fa (kI kp_push) (fa (kI kp_bin) (fa (kI kp_ia) (fa kC (fa (kI kp_ic) (fa (kI kp_push) (fa kC (fa (kI kp_ald) (fa (kI kp_ald) (fa (kI kp_ild) (fa (kI kp_push) (fa (kI kp_bin) (fa (kI kp_ia) (fa (kI kp_ald) (fa (kI kp_ild) (fa (kI kp_push) (fa (kI kp_bin) (fa (kI kp_ia) (fa kC (fa (kI kp_ald) (fa (kI kp_ald) (fa (kI kp_ild) (fa (kI kp_push) (fa (kI kp_bin) (fa (kI kp_ia) (fa (kI kp_ald) (fa (kI kp_ild) (fa (kI kp_push) (fa (kI kp_bin) (fa (kI kp_ia) (fa kC (fa (kI kp_ic) (fa (kI kp_push) (fa kC (fa (kI kp_ald) (fa (kI kp_ald) (fa (kI kp_ild) (fa (kI kp_push) (fa (kI kp_bin) (fa (kI kp_ia) (fa kC (fa (kI kp_ald) (fa (kI kp_ald) (fa (kI kp_ild) (fa (kI kp_push) (fa (kI kp_bin) (fa (kI kp_ia) (fa kC f0))))))))))))))))))))))))))))))))))))))))))))))))))
set_option maxRecDepth 100000 in
set_option maxHeartbeats 4000000 in
theorem kp_W_law_10 : ∀ (pc : Nat) (i : aIn), k_W_law_10 pc = some i → KI pc i := lkl_ok (P := KI) (fa (kI kp_ic) (fa (kI kp_push) (fa kC (fa (kI kp_ald) (fa (kI kp_ald) (fa (kI kp_ild) (fa (kI kp_push) (fa (kI kp_bin) (fa (kI kp_ia) (fa kC (fa (kI kp_ald) (fa (kI kp_ald) (fa (kI kp_ild) (fa (kI kp_push) (fa (kI kp_bin) (fa (kI kp_ia) (fa kC (fa (kI kp_ic) (fa (kI kp_push) (fa kC (fa (kI kp_ald) (fa kC (fa (kI kp_ald) (fa kC (fa (kI kp_ic) (fa (kI kp_push) (fa kC (fa (kI kp_ald) (fa (kI kp_ald) (fa (kI kp_ild) (fa (kI kp_push) (fa (kI kp_bin) (fa (kI kp_ia) (fa (kI kp_ald) (fa (kI kp_ild) (fa (kI kp_push) (fa (kI kp_bin) (fa (kI kp_ia) (fa kC (fa (kI kp_ald) (fa (kI kp_ald) (fa (kI kp_ild) (fa (kI kp_push) (fa (kI kp_bin) (fa (kI kp_ia) (fa (kI kp_ald) (fa (kI kp_ild) (fa (kI kp_push) (fa (kI kp_bin) (fa (kI kp_ia) f0))))))))))))))))))))))))))))))))))))))))))))))))))
set_option maxRecDepth 100000 in
set_option maxHeartbeats 4000000 in
theorem kp_W_law_11 : ∀ (pc : Nat) (i : aIn), k_W_law_11 pc = some i → KI pc i := lkl_ok (P := KI) (fa kC (fa (kI kp_ic) (fa (kI kp_push) (fa kC (fa (kI kp_ald) (fa (kI kp_ald) (fa (kI kp_ild) (fa (kI kp_push) (fa (kI kp_bin) (fa (kI kp_ia) (fa (kI kp_ald) (fa (kI kp_ild) (fa (kI kp_push) (fa (kI kp_bin) (fa (kI kp_ia) (fa kC (fa (kI kp_ald) (fa (kI kp_ald) (fa (kI kp_ild) (fa (kI kp_push) (fa (kI kp_bin) (fa (kI kp_ia) (fa (kI kp_ald) (fa (kI kp_ild) (fa (kI kp_push) (fa (kI kp_bin) (fa (kI kp_ia) (fa kC (fa (kI kp_ic) (fa (kI kp_push) (fa kC (fa (kI kp_ald) (fa (kI kp_ald) (fa (kI kp_ild) (fa (kI kp_push) (fa (kI kp_bin) (fa (kI kp_ia) (fa kC (fa (kI kp_ald) (fa (kI kp_ald) (fa (kI kp_ild) (fa (kI kp_push) (fa (kI kp_bin) (fa (kI kp_ia) (fa kC (fa (kI kp_ic) (fa (kI kp_push) (fa kC (fa (kI kp_ald) (fa (kI kp_ald) f0))))))))))))))))))))))))))))))))))))))))))))))))))
set_option maxRecDepth 100000 in
set_option maxHeartbeats 4000000 in
theorem kp_W_law_12 : ∀ (pc : Nat) (i : aIn), k_W_law_12 pc = some i → KI pc i := lkl_ok (P := KI) (fa (kI kp_ild) (fa (kI kp_push) (fa (kI kp_bin) (fa (kI kp_ia) (fa (kI kp_ald) (fa (kI kp_ild) (fa (kI kp_push) (fa (kI kp_bin) (fa (kI kp_ia) (fa (kI kp_ald) (fa (kI kp_ild) (fa (kI kp_push) (fa (kI kp_bin) (fa (kI kp_ia) (fa kC (fa (kI kp_ald) (fa (kI kp_ald) (fa (kI kp_ild) (fa (kI kp_push) (fa (kI kp_bin) (fa (kI kp_ia) (fa (kI kp_ald) (fa (kI kp_ild) (fa (kI kp_push) (fa (kI kp_bin) (fa (kI kp_ia) (fa (kI kp_ald) (fa (kI kp_ild) (fa (kI kp_push) (fa (kI kp_bin) (fa (kI kp_ia) (fa kC (fa (kI kp_ic) (fa (kI kp_push) (fa kC (fa (kI kp_ald) (fa (kI kp_ald) (fa (kI kp_ild) (fa (kI kp_push) (fa (kI kp_bin) (fa (kI kp_ia) (fa kC (fa (kI kp_ald) (fa (kI kp_ald) (fa (kI kp_ild) (fa (kI kp_push) (fa (kI kp_bin) (fa (kI kp_ia) (fa kC (fa (kI kp_ic) f0))))))))))))))))))))))))))))))))))))))))))))))))))
set_option maxRecDepth 100000 in
set_option maxHeartbeats 4000000 in
theorem kp_W_law_13 : ∀ (pc : Nat) (i : aIn), k_W_law_13 pc = some i → KI pc i := lkl_ok (P := KI) (fa (kI kp_push) (fa kC (fa (kI kp_ald) (fa (kI kp_ald) (fa (kI kp_ild) (fa (kI kp_push) (fa (kI kp_bin) (fa (kI kp_ia) (fa (kI kp_ald) (fa (kI kp_ild) (fa (kI kp_push) (fa (kI kp_bin) (fa (kI kp_ia) (fa (kI kp_ald) (fa (kI kp_ild) (fa (kI kp_push) (fa (kI kp_bin) (fa (kI kp_ia) (fa kC (fa (kI kp_ald) (fa (kI kp_ald) (fa (kI kp_ild) (fa (kI kp_push) (fa (kI kp_bin) (fa (kI kp_ia) (fa (kI kp_ald) (fa (kI kp_ild) (fa (kI kp_push) (fa (kI kp_bin) (fa (kI kp_ia) (fa (kI kp_ald) (fa (kI kp_ild) (fa (kI kp_push) (fa (kI kp_bin) (fa (kI kp_ia) (fa kC (fa (kI kp_ic) (fa (kI kp_push) (fa kC (fa (kI kp_ald) (fa (kI kp_ald) (fa (kI kp_ild) (fa (kI kp_push) (fa (kI kp_bin) (fa (kI kp_ia) (fa (kI kp_ald) (fa (kI kp_ild) (fa (kI kp_push) (fa (kI kp_bin) (fa (kI kp_ia) f0))))))))))))))))))))))))))))))))))))))))))))))))))
set_option maxRecDepth 100000 in
set_option maxHeartbeats 4000000 in
theorem kp_W_law_14 : ∀ (pc : Nat) (i : aIn), k_W_law_14 pc = some i → KI pc i := lkl_ok (P := KI) (fa (kI kp_ald) (fa (kI kp_ild) (fa (kI kp_push) (fa (kI kp_bin) (fa (kI kp_ia) (fa kC (fa (kI kp_ald) (fa (kI kp_ald) (fa (kI kp_ild) (fa (kI kp_push) (fa (kI kp_bin) (fa (kI kp_ia) (fa (kI kp_ald) (fa (kI kp_ild) (fa (kI kp_push) (fa (kI kp_bin) (fa (kI kp_ia) (fa (kI kp_ald) (fa (kI kp_ild) (fa (kI kp_push) (fa (kI kp_bin) (fa (kI kp_ia) (fa kC (fa (kI kp_ic) (fa (kI kp_push) (fa kC (fa (kI kp_ald) (fa (kI kp_ald) (fa (kI kp_ild) (fa (kI kp_push) (fa (kI kp_bin) (fa (kI kp_ia) (fa (kI kp_ald) (fa (kI kp_ild) (fa (kI kp_push) (fa (kI kp_bin) (fa (kI kp_ia) (fa kC (fa (kI kp_ald) (fa (kI kp_ald) (fa (kI kp_ild) (fa (kI kp_push) (fa (kI kp_bin) (fa (kI kp_ia) (fa (kI kp_ald) (fa (kI kp_ild) (fa (kI kp_push) (fa (kI kp_bin) (fa (kI kp_ia) (fa kC f0))))))))))))))))))))))))))))))))))))))))))))))))))
set_option maxRecDepth 100000 in
set_option maxHeartbeats 4000000 in
theorem kp_W_law_15 : ∀ (pc : Nat) (i : aIn), k_W_law_15 pc = some i → KI pc i := lkl_ok (P := KI) (fa (kI kp_ic) (fa (kI kp_push) (fa kC (fa (kI kp_ald) (fa (kI kp_ald) (fa (kI kp_ild) (fa (kI kp_push) (fa (kI kp_bin) (fa (kI kp_ia) (fa (kI kp_ald) (fa (kI kp_ild) (fa (kI kp_push) (fa (kI kp_bin) (fa (kI kp_ia) (fa (kI kp_ald) (fa (kI kp_ild) (fa (kI kp_push) (fa (kI kp_bin) (fa (kI kp_ia) (fa kC (fa (kI kp_ald) (fa (kI kp_ald) (fa (kI kp_ild) (fa (kI kp_push) (fa (kI kp_bin) (fa (kI kp_ia) (fa (kI kp_ald) (fa (kI kp_ild) (fa (kI kp_push) (fa (kI kp_bin) (fa (kI kp_ia) (fa (kI kp_ald) (fa (kI kp_ild) (fa (kI kp_push) (fa (kI kp_bin) (fa (kI kp_ia) (fa kC (fa (kI kp_ic) (fa (kI kp_push) (fa kC (fa (kI kp_ald) (fa kC (fa (kI kp_ald) (fa kC (fa (kI kp_ic) (fa (kI kp_push) (fa kC (fa (kI kp_inc) (fa (kI kp_go) (fa (kI kp_push) f0))))))))))))))))))))))))))))))))))))))))))))))))))
set_option maxRecDepth 100000 in
set_option maxHeartbeats 4000000 in
theorem kp_W_law_16 : ∀ (pc : Nat) (i : aIn), k_W_law_16 pc = some i → KI pc i := lkl_ok (P := KI) (fa kC f0)
theorem kp_W_law : ∀ (pc : Nat) (i : aIn), k_W_law pc = some i → KI pc i := (lkb_ok (lkb_ok (lkb_ok (lkb_ok (lkb_ok kp_W_law_16 kp_W_law_15) kp_W_law_14) (lkb_ok kp_W_law_13 kp_W_law_12)) (lkb_ok (lkb_ok kp_W_law_11 kp_W_law_10) (lkb_ok kp_W_law_9 kp_W_law_8))) (lkb_ok (lkb_ok (lkb_ok kp_W_law_7 kp_W_law_6) (lkb_ok kp_W_law_5 kp_W_law_4)) (lkb_ok (lkb_ok kp_W_law_3 kp_W_law_2) (lkb_ok kp_W_law_1 kp_W_law_0))))
set_option maxRecDepth 100000 in
set_option maxHeartbeats 4000000 in
theorem all_kp : ∀ (M pc : Nat) (i : aIn), pk M pc = some i → KI pc i := by
  intro M pc i h
  by_cases hM : M < 193
  · match M, hM with
    | 0, _ => exact kp_A_init pc i h
    | 1, _ => exact kp_A_perform pc i h
    | 2, _ => exact kp_A_run pc i h
    | 3, _ => exact kp_A_kindWithBody pc i h
    | 4, _ => exact kp_A_begin pc i h
    | 5, _ => exact kp_Ch_init pc i h
    | 6, _ => exact kp_Ch_firstMarks pc i h
    | 7, _ => exact kp_Ch_shareOf pc i h
    | 8, _ => exact kp_Kp_init pc i h
    | 9, _ => exact kp_Kp_after pc i h
    | 10, _ => exact kp_Kp_isAlike pc i h
    | 11, _ => exact kp_Kp_wordingOf pc i h
    | 12, _ => exact kp_Kp_countMost pc i h
    | 13, _ => exact kp_Kp_pairInOrder pc i h
    | 14, _ => exact kp_Kp_leastOld pc i h
    | 15, _ => exact kp_Kp_pairMoved pc i h
    | 16, _ => exact kp_Kp_firstLeftOf pc i h
    | 17, _ => exact kp_Kp_newPage pc i h
    | 18, _ => exact kp_Li_init pc i h
    | 19, _ => exact kp_Li_markCount pc i h
    | 20, _ => exact kp_Li_markTold pc i h
    | 21, _ => exact kp_Li_pointsOf pc i h
    | 22, _ => exact kp_Li_pointsIfRead pc i h
    | 23, _ => exact kp_Li_withText pc i h
    | 24, _ => exact kp_Li_readBy pc i h
    | 25, _ => exact kp_Li_marksToGo pc i h
    | 26, _ => exact kp_Pg_init pc i h
    | 27, _ => exact kp_Pg_size pc i h
    | 28, _ => exact kp_Pg_rowAt pc i h
    | 29, _ => exact kp_Pg_knownBy pc i h
    | 30, _ => exact kp_Pg_knownIfRead pc i h
    | 31, _ => exact kp_Pg_madeBy pc i h
    | 32, _ => exact kp_Pg_readBy pc i h
    | 33, _ => exact kp_Pl_init pc i h
    | 34, _ => exact kp_Pl_workOut pc i h
    | 35, _ => exact kp_Pl_priceTasks pc i h
    | 36, _ => exact kp_Pl_priceOf pc i h
    | 37, _ => exact kp_Pl_openSlots pc i h
    | 38, _ => exact kp_Pl_countLeast pc i h
    | 39, _ => exact kp_Pl_hoursWith pc i h
    | 40, _ => exact kp_Pl_filled pc i h
    | 41, _ => exact kp_Pl_choose pc i h
    | 42, _ => exact kp_Pl_firstFile pc i h
    | 43, _ => exact kp_Sh_init pc i h
    | 44, _ => exact kp_Sh_begin pc i h
    | 45, _ => exact kp_Sh_holdsTexts pc i h
    | 46, _ => exact kp_St_init pc i h
    | 47, _ => exact kp_St_become pc i h
    | 48, _ => exact kp_St_addPerson pc i h
    | 49, _ => exact kp_St_addChange pc i h
    | 50, _ => exact kp_St_isPerson pc i h
    | 51, _ => exact kp_St_isHere pc i h
    | 52, _ => exact kp_St_pageOf pc i h
    | 53, _ => exact kp_St_lineOf pc i h
    | 54, _ => exact kp_St_changeOf pc i h
    | 55, _ => exact kp_St_isAble pc i h
    | 56, _ => exact kp_St_isEnough pc i h
    | 57, _ => exact kp_St_linesMadeBy pc i h
    | 58, _ => exact kp_St_shareOf pc i h
    | 59, _ => exact kp_Te_init pc i h
    | 60, _ => exact kp_Te_gather pc i h
    | 61, _ => exact kp_Te_sizeOf pc i h
    | 62, _ => exact kp_Te_lostWithout pc i h
    | 63, _ => exact kp_Te_loneAfter pc i h
    | 64, _ => exact kp_Te_fewest pc i h
    | 65, _ => exact kp_Te_meetsAll pc i h
    | 66, _ => exact kp_Te_isAhead pc i h
    | 67, _ => exact kp_C_init pc i h
    | 68, _ => exact kp_C_person pc i h
    | 69, _ => exact kp_C_here pc i h
    | 70, _ => exact kp_C_day pc i h
    | 71, _ => exact kp_C_share pc i h
    | 72, _ => exact kp_C_text pc i h
    | 73, _ => exact kp_C_wipe pc i h
    | 74, _ => exact kp_C_change pc i h
    | 75, _ => exact kp_C_back pc i h
    | 76, _ => exact kp_C_read pc i h
    | 77, _ => exact kp_C_image pc i h
    | 78, _ => exact kp_C_restore pc i h
    | 79, _ => exact kp_C_lines pc i h
    | 80, _ => exact kp_C_line pc i h
    | 81, _ => exact kp_C_mark pc i h
    | 82, _ => exact kp_C_changeTold pc i h
    | 83, _ => exact kp_C_points pc i h
    | 84, _ => exact kp_C_knows pc i h
    | 85, _ => exact kp_C_able pc i h
    | 86, _ => exact kp_C_lost pc i h
    | 87, _ => exact kp_C_lone pc i h
    | 88, _ => exact kp_C_cover pc i h
    | 89, _ => exact kp_C_plan pc i h
    | 90, _ => exact kp_C_sum pc i h
    | 91, _ => exact kp_C_count pc i h
    | 92, _ => exact kp_C_act pc i h
    | 93, _ => exact kp_C_trace pc i h
    | 94, _ => exact kp_C_sheet pc i h
    | 95, _ => exact kp_C_cell pc i h
    | 96, _ => exact kp_C_come pc i h
    | 97, _ => exact kp_C_forge pc i h
    | 98, _ => exact kp_C_status pc i h
    | 99, _ => exact kp_C_done pc i h
    | 100, _ => exact kp_C_refused pc i h
    | 101, _ => exact kp_C_sheetOf pc i h
    | 102, _ => exact kp_C_countLone pc i h
    | 103, _ => exact kp_C_takeForKind pc i h
    | 104, _ => exact kp_C_takeNumber pc i h
    | 105, _ => exact kp_C_copyNumbers pc i h
    | 106, _ => exact kp_C_putAmongFormed pc i h
    | 107, _ => exact kp_C_isText pc i h
    | 108, _ => exact kp_C_isUnder pc i h
    | 109, _ => exact kp_R_init pc i h
    | 110, _ => exact kp_R_isIn pc i h
    | 111, _ => exact kp_R_refused pc i h
    | 112, _ => exact kp_R_done pc i h
    | 113, _ => exact kp_R_isPerson pc i h
    | 114, _ => exact kp_R_isFile pc i h
    | 115, _ => exact kp_R_isLine pc i h
    | 116, _ => exact kp_R_isChange pc i h
    | 117, _ => exact kp_R_isHere pc i h
    | 118, _ => exact kp_R_person pc i h
    | 119, _ => exact kp_R_here pc i h
    | 120, _ => exact kp_R_day pc i h
    | 121, _ => exact kp_R_share pc i h
    | 122, _ => exact kp_R_text pc i h
    | 123, _ => exact kp_R_wipe pc i h
    | 124, _ => exact kp_R_areAlike pc i h
    | 125, _ => exact kp_R_textAt pc i h
    | 126, _ => exact kp_R_pairs pc i h
    | 127, _ => exact kp_R_isTaken pc i h
    | 128, _ => exact kp_R_moves pc i h
    | 129, _ => exact kp_R_comes pc i h
    | 130, _ => exact kp_R_marks pc i h
    | 131, _ => exact kp_R_change pc i h
    | 132, _ => exact kp_R_back pc i h
    | 133, _ => exact kp_R_read pc i h
    | 134, _ => exact kp_R_keeps pc i h
    | 135, _ => exact kp_R_keepsAll pc i h
    | 136, _ => exact kp_R_image pc i h
    | 137, _ => exact kp_R_restore pc i h
    | 138, _ => exact kp_R_lines pc i h
    | 139, _ => exact kp_R_line pc i h
    | 140, _ => exact kp_R_mark pc i h
    | 141, _ => exact kp_R_madeBy pc i h
    | 142, _ => exact kp_R_changeTold pc i h
    | 143, _ => exact kp_R_pointsFrom pc i h
    | 144, _ => exact kp_R_points pc i h
    | 145, _ => exact kp_R_known pc i h
    | 146, _ => exact kp_R_knows pc i h
    | 147, _ => exact kp_R_does pc i h
    | 148, _ => exact kp_R_isAble pc i h
    | 149, _ => exact kp_R_able pc i h
    | 150, _ => exact kp_R_findAbles pc i h
    | 151, _ => exact kp_R_lostBy pc i h
    | 152, _ => exact kp_R_lost pc i h
    | 153, _ => exact kp_R_bits pc i h
    | 154, _ => exact kp_R_isLone pc i h
    | 155, _ => exact kp_R_loneAt pc i h
    | 156, _ => exact kp_R_lone pc i h
    | 157, _ => exact kp_R_cover pc i h
    | 158, _ => exact kp_R_covers pc i h
    | 159, _ => exact kp_R_findTasks pc i h
    | 160, _ => exact kp_R_taskOf pc i h
    | 161, _ => exact kp_R_lacking pc i h
    | 162, _ => exact kp_R_begins pc i h
    | 163, _ => exact kp_R_plan pc i h
    | 164, _ => exact kp_R_sum pc i h
    | 165, _ => exact kp_R_count pc i h
    | 166, _ => exact kp_R_notes pc i h
    | 167, _ => exact kp_R_plainWrite pc i h
    | 168, _ => exact kp_R_formedWrite pc i h
    | 169, _ => exact kp_R_write pc i h
    | 170, _ => exact kp_R_plainMove pc i h
    | 171, _ => exact kp_R_move pc i h
    | 172, _ => exact kp_R_plainKnow pc i h
    | 173, _ => exact kp_R_know pc i h
    | 174, _ => exact kp_R_plainFade pc i h
    | 175, _ => exact kp_R_fade pc i h
    | 176, _ => exact kp_R_act pc i h
    | 177, _ => exact kp_R_trace pc i h
    | 178, _ => exact kp_R_sheet pc i h
    | 179, _ => exact kp_R_byteOf pc i h
    | 180, _ => exact kp_R_cell pc i h
    | 181, _ => exact kp_R_come pc i h
    | 182, _ => exact kp_R_modulo pc i h
    | 183, _ => exact kp_R_forge pc i h
    | 184, _ => exact kp_R_copied pc i h
    | 185, _ => exact kp_R_status pc i h
    | 186, _ => exact kp_J_lowestOneBit pc i h
    | 187, _ => exact kp_J_bitCount pc i h
    | 188, _ => exact kp_J_floorMod pc i h
    | 189, _ => exact kp_J_max pc i h
    | 190, _ => exact kp_J_min pc i h
    | 191, _ => exact kp_J_fill pc i h
    | 192, _ => exact kp_W_law pc i h
    | M + 193, hM => exact absurd hM (by omega)
  · exfalso
    have e : pk M = fun _ => none := by
      unfold pk
      rw [List.getD_eq_getElem?_getD, List.getElem?_eq_none (Nat.le_of_not_lt hM)]
      rfl
    rw [e] at h
    cases h
theorem rn_kp {cal : Nat → List aV → aH → aR} {K : aK} (hK : ∀ (pc : Nat) (i : aIn), K pc = some i → KI pc i) (hcal : ∀ (M : Nat) (as : List aV) (h : aH) (r : Option aV) (h' : aH), cal M as h = some (r, h') → 3 ≤ aSz h → Kp h h') : ∀ (f pc : Nat) (ls st : List aV) (h : aH) (r : Option aV) (h' : aH), rn cal K f (pc, ls, st, h) = some (r, h') → 3 ≤ aSz h → Kp h h' := by
  intro f
  induction f with
  | zero => intro pc ls st h r h' e; cases e
  | succ f ih =>
    intro pc ls st h r h' e h3
    unfold rn at e
    cases hn : nx cal K (pc, ls, st, h) with
    | none => rw [hn] at e; cases e
    | some o =>
      rw [hn] at e
      cases hk : K pc with
      | none => simp only [nx, lk, hk] at hn; cases hn
      | some i =>
        have hI := hK pc i hk
        rcases i with sm | q | k
        · simp only [nx, lk, hk] at hn
          cases hs : sm ls st h with
          | none => rw [hs] at hn; cases hn
          | some t =>
            rw [hs] at hn
            cases hn
            obtain ⟨n, ls', st', h1⟩ := t
            have a1 := hI ls st h n ls' st' h1 hs h3
            exact a1.trans (ih n ls' st' h1 r h' e a1.2.1)
        · simp only [nx, lk, hk] at hn
          split at hn
          · cases hq : cal q.1 (st.take q.2.1).reverse h with
            | none => rw [hq] at hn; cases hn
            | some t =>
              rw [hq] at hn
              cases hn
              obtain ⟨r1, h1⟩ := t
              have a1 := hcal _ _ _ _ _ hq h3
              exact a1.trans (ih _ _ _ h1 r h' e a1.2.1)
          · cases hn
        · simp only [nx, lk, hk] at hn
          cases hr : retv k st with
          | none => rw [hr] at hn; cases hn
          | some r1 =>
            rw [hr] at hn
            cases hn
            cases e
            exact Kp.rf h3
theorem ev_kp : ∀ (d M : Nat) (as : List aV) (h : aH) (r : Option aV) (h' : aH), ev d M as h = some (r, h') → 3 ≤ aSz h → Kp h h' := by
  intro d
  induction d with
  | zero => intro M as h r h' e; cases e
  | succ d ih =>
    intro M as h r h' e h3
    unfold ev cl at e
    cases hle : Nat.ble (aEnt as).length (pl M) with
    | false => rw [hle] at e; cases e
    | true =>
      rw [hle] at e
      simp only [cond_true] at e
      obtain ⟨f, hf⟩ := (ex_iff _).mp e
      exact rn_kp (all_kp M) (fun M as h r h' q => ih M as h r h' q) f 0 _ _ h r h' hf h3
