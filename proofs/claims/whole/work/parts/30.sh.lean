/-! READING AND WRITING THE ABSTRACT HEAP; the fixed cells: printed by wip/whole/gen/sh.py -/
def fi (h : aH) (a k : Nat) : Int := match gf h a k with
  | .inl x => x
  | _ => 0
def fq (h : aH) (a k : Nat) : Option Nat := match gf h a k with
  | .inr (.inl r) => r
  | _ => none
section SHA
variable {h : aH} {a b k j n c : Nat} {v : aV} {f g : Int → Int} {p q : Int → Option Nat} {x : aR} {i : Int} {z : Int} {r : Option Nat} {ce : aC}
theorem aCo_pf : aCo (pf h a k v) b = if b = a then (match aCo h a with | .inl o => .inl (o.1, o.2.set k v) | c => c) else aCo h b := rfl
theorem aCo_sa : aCo (sa h a f) b = if b = a then (match aCo h a with | .inr (.inl q) => .inr (.inl (q.1, f)) | c => c) else aCo h b := rfl
theorem aCo_sr : aCo (sr h a p) b = if b = a then (match aCo h a with | .inr (.inr q) => .inr (.inr (q.1, q.2.1, p)) | c => c) else aCo h b := rfl
theorem aSz_pf : aSz (pf h a k v) = aSz h := rfl
theorem aSl_pf : aSl (pf h a k v) = aSl h := rfl
theorem isO_pf : isO (pf h a k v) b c = isO h b c := by
  unfold isO
  rw [aCo_pf]
  try rw [aSz_pf]
  by_cases e : b = a
  · subst e
    rw [if_pos rfl]
    rcases aCo h b with o | o | o <;> simp
  · rw [if_neg e]
theorem isA_pf : isA (pf h a k v) b = isA h b := by
  unfold isA
  rw [aCo_pf]
  try rw [aSz_pf]
  by_cases e : b = a
  · subst e
    rw [if_pos rfl]
    rcases aCo h b with o | o | o <;> simp
  · rw [if_neg e]
theorem isR_pf : isR (pf h a k v) b c = isR h b c := by
  unfold isR
  rw [aCo_pf]
  try rw [aSz_pf]
  by_cases e : b = a
  · subst e
    rw [if_pos rfl]
    rcases aCo h b with o | o | o <;> simp
  · rw [if_neg e]
theorem al_pf : al (pf h a k v) b = al h b := by
  unfold al
  rw [aCo_pf]
  try rw [aSz_pf]
  by_cases e : b = a
  · subst e
    rw [if_pos rfl]
    rcases aCo h b with o | o | o <;> simp
  · rw [if_neg e]
theorem aSz_sa : aSz (sa h a f) = aSz h := rfl
theorem aSl_sa : aSl (sa h a f) = aSl h := rfl
theorem isO_sa : isO (sa h a f) b c = isO h b c := by
  unfold isO
  rw [aCo_sa]
  try rw [aSz_sa]
  by_cases e : b = a
  · subst e
    rw [if_pos rfl]
    rcases aCo h b with o | o | o <;> simp
  · rw [if_neg e]
theorem isA_sa : isA (sa h a f) b = isA h b := by
  unfold isA
  rw [aCo_sa]
  try rw [aSz_sa]
  by_cases e : b = a
  · subst e
    rw [if_pos rfl]
    rcases aCo h b with o | o | o <;> simp
  · rw [if_neg e]
theorem isR_sa : isR (sa h a f) b c = isR h b c := by
  unfold isR
  rw [aCo_sa]
  try rw [aSz_sa]
  by_cases e : b = a
  · subst e
    rw [if_pos rfl]
    rcases aCo h b with o | o | o <;> simp
  · rw [if_neg e]
theorem al_sa : al (sa h a f) b = al h b := by
  unfold al
  rw [aCo_sa]
  try rw [aSz_sa]
  by_cases e : b = a
  · subst e
    rw [if_pos rfl]
    rcases aCo h b with o | o | o <;> simp
  · rw [if_neg e]
theorem aSz_sr : aSz (sr h a p) = aSz h := rfl
theorem aSl_sr : aSl (sr h a p) = aSl h := rfl
theorem isO_sr : isO (sr h a p) b c = isO h b c := by
  unfold isO
  rw [aCo_sr]
  try rw [aSz_sr]
  by_cases e : b = a
  · subst e
    rw [if_pos rfl]
    rcases aCo h b with o | o | o <;> simp
  · rw [if_neg e]
theorem isA_sr : isA (sr h a p) b = isA h b := by
  unfold isA
  rw [aCo_sr]
  try rw [aSz_sr]
  by_cases e : b = a
  · subst e
    rw [if_pos rfl]
    rcases aCo h b with o | o | o <;> simp
  · rw [if_neg e]
theorem isR_sr : isR (sr h a p) b c = isR h b c := by
  unfold isR
  rw [aCo_sr]
  try rw [aSz_sr]
  by_cases e : b = a
  · subst e
    rw [if_pos rfl]
    rcases aCo h b with o | o | o <;> simp
  · rw [if_neg e]
theorem al_sr : al (sr h a p) b = al h b := by
  unfold al
  rw [aCo_sr]
  try rw [aSz_sr]
  by_cases e : b = a
  · subst e
    rw [if_pos rfl]
    rcases aCo h b with o | o | o <;> simp
  · rw [if_neg e]
theorem gf_sa : gf (sa h a f) b j = gf h b j := by
  unfold gf
  rw [aCo_sa]
  by_cases e : b = a
  · subst e
    rw [if_pos rfl]
    rcases aCo h b with o | o | o <;> rfl
  · rw [if_neg e]
theorem gf_sr : gf (sr h a p) b j = gf h b j := by
  unfold gf
  rw [aCo_sr]
  by_cases e : b = a
  · subst e
    rw [if_pos rfl]
    rcases aCo h b with o | o | o <;> rfl
  · rw [if_neg e]
theorem ai_pf : ai (pf h a k v) b = ai h b := by
  unfold ai
  rw [aCo_pf]
  by_cases e : b = a
  · subst e
    rw [if_pos rfl]
    rcases aCo h b with o | o | o <;> rfl
  · rw [if_neg e]
theorem ai_sr : ai (sr h a p) b = ai h b := by
  unfold ai
  rw [aCo_sr]
  by_cases e : b = a
  · subst e
    rw [if_pos rfl]
    rcases aCo h b with o | o | o <;> rfl
  · rw [if_neg e]
theorem ra_pf : ra (pf h a k v) b = ra h b := by
  unfold ra
  rw [aCo_pf]
  by_cases e : b = a
  · subst e
    rw [if_pos rfl]
    rcases aCo h b with o | o | o <;> rfl
  · rw [if_neg e]
theorem ra_sa : ra (sa h a f) b = ra h b := by
  unfold ra
  rw [aCo_sa]
  by_cases e : b = a
  · subst e
    rw [if_pos rfl]
    rcases aCo h b with o | o | o <;> rfl
  · rw [if_neg e]
theorem gf_pn (e : b ≠ a ∨ j ≠ k) : gf (pf h a k v) b j = gf h b j := by
  unfold gf
  rw [aCo_pf]
  by_cases e1 : b = a
  · subst e1
    rw [if_pos rfl]
    rcases aCo h b with o | o | o
    · have : k ≠ j := fun q => (by rcases e with e | e <;> first | exact e rfl | exact e q.symm)
      simp only [List.getD_eq_getElem?_getD, List.getElem?_set_ne this]
    · rfl
    · rfl
  · rw [if_neg e1]
theorem gf_pe (ho : isO h a c = true) (hk : k < aNf c) : gf (pf h a k v) a k = v := by
  obtain ⟨fs, e1, e2, e3, e4⟩ := isO_of ho
  unfold gf
  rw [aCo_pf, if_pos rfl, e1]
  simp only [List.getD_eq_getElem?_getD]
  rw [List.getElem?_set_self (by omega)]
  rfl
theorem ai_sn (e : b ≠ a) : ai (sa h a f) b = ai h b := by unfold ai; rw [aCo_sa, if_neg e]
theorem ai_se (e : isA h a = true) : ai (sa h a f) a = f := by
  obtain ⟨n, g, e1, -⟩ := isA_of e
  unfold ai
  rw [aCo_sa, if_pos rfl, e1]
theorem ra_sn (e : b ≠ a) : ra (sr h a p) b = ra h b := by unfold ra; rw [aCo_sr, if_neg e]
theorem ra_se (e : isR h a c = true) : ra (sr h a p) a = p := by
  obtain ⟨n, g, e1, -⟩ := isR_of e
  unfold ra
  rw [aCo_sr, if_pos rfl, e1]
theorem hext {h1 h2 : aH} (e1 : aSz h1 = aSz h2) (e2 : aSl h1 = aSl h2) (e3 : ∀ b, aCo h1 b = aCo h2 b) : h1 = h2 := by
  obtain ⟨a1, b1, c1⟩ := h1
  obtain ⟨a2, b2, c2⟩ := h2
  have : c1 = c2 := funext e3
  simp only [aSz, aSl] at e1 e2
  rw [e1, e2, this]
theorem sa_sa : sa (sa h a f) a g = sa h a g := by
  refine hext rfl rfl fun b => ?_
  by_cases e : b = a
  · subst e
    simp only [aCo_sa, if_true]
    rcases aCo h b with o | o | o <;> rfl
  · simp only [aCo_sa, if_neg e]
theorem pf_pf {w : aV} : pf (pf h a k v) a k w = pf h a k w := by
  refine hext rfl rfl fun b => ?_
  by_cases e : b = a
  · subst e
    simp only [aCo_pf, if_true]
    rcases aCo h b with o | o | o
    · simp
    · rfl
    · rfl
  · simp only [aCo_pf, if_neg e]
theorem sr_sr : sr (sr h a p) a q = sr h a q := by
  refine hext rfl rfl fun b => ?_
  by_cases e : b = a
  · subst e
    simp only [aCo_sr, if_true]
    rcases aCo h b with o | o | o <;> rfl
  · simp only [aCo_sr, if_neg e]
theorem sa_self (e : isA h a = true) (hf : f = ai h a) : sa h a f = h := by
  obtain ⟨n, g, e1, -, -, e4⟩ := isA_of e
  refine hext rfl rfl fun b => ?_
  rw [aCo_sa]
  by_cases e : b = a
  · subst e
    rw [if_pos rfl, e1, hf, e4]
  · rw [if_neg e]
theorem isO_new (e : b < aSz h) : isO (aNew h ce n) b c = isO h b c := by
  unfold isO
  rw [aCo_new, if_neg (by omega), aSz_new]
  have e1 : b < aSz h + 1 := by omega
  rcases aCo h b with o | o | o <;> simp [e, e1]
theorem isR_new (e : b < aSz h) : isR (aNew h ce n) b c = isR h b c := by
  unfold isR
  rw [aCo_new, if_neg (by omega), aSz_new]
  have e1 : b < aSz h + 1 := by omega
  rcases aCo h b with o | o | o <;> simp [e, e1]
theorem isA_new (e : b < aSz h) : isA (aNew h ce n) b = isA h b := by
  unfold isA
  rw [aCo_new, if_neg (by omega), aSz_new]
  have e1 : b < aSz h + 1 := by omega
  rcases aCo h b with o | o | o <;> simp [e, e1]
theorem al_new (e : b < aSz h) : al (aNew h ce n) b = al h b := by
  unfold al
  rw [aCo_new, if_neg (by omega)]
theorem ai_new (e : b < aSz h) : ai (aNew h ce n) b = ai h b := by
  unfold ai
  rw [aCo_new, if_neg (by omega)]
theorem ra_new (e : b < aSz h) : ra (aNew h ce n) b = ra h b := by
  unfold ra
  rw [aCo_new, if_neg (by omega)]
theorem gf_new (e : b < aSz h) : gf (aNew h ce n) b j = gf h b j := by
  unfold gf
  rw [aCo_new, if_neg (by omega)]
theorem isO_new1 (h3 : 3 ≤ aSz h) {fs : List aV} (hl : fs.length = aNf c) : isO (aNew h (.inl (c, fs)) n) (aSz h) c = true := by
  unfold isO
  rw [aCo_new, if_pos rfl, aSz_new]
  simp [h3, hl]
theorem gf_new1 {fs : List aV} : gf (aNew h (.inl (c, fs)) n) (aSz h) j = fs.getD j aU := by
  unfold gf
  rw [aCo_new, if_pos rfl]
theorem isA_new1 {m : Nat} : isA (aNew h (.inr (.inl (m, f))) n) (aSz h) = true := by
  unfold isA
  rw [aCo_new, if_pos rfl, aSz_new]
  simp
theorem al_newA {m : Nat} : al (aNew h (.inr (.inl (m, f))) n) (aSz h) = m := by
  unfold al
  rw [aCo_new, if_pos rfl]
theorem ai_newA {m : Nat} : ai (aNew h (.inr (.inl (m, f))) n) (aSz h) = f := by
  unfold ai
  rw [aCo_new, if_pos rfl]
theorem isR_new1 (h3 : 3 ≤ aSz h) {m : Nat} : isR (aNew h (.inr (.inr (c, m, p))) n) (aSz h) c = true := by
  unfold isR
  rw [aCo_new, if_pos rfl, aSz_new]
  simp [h3]
theorem al_newR {m : Nat} : al (aNew h (.inr (.inr (c, m, p))) n) (aSz h) = m := by
  unfold al
  rw [aCo_new, if_pos rfl]
theorem ra_newR {m : Nat} : ra (aNew h (.inr (.inr (c, m, p))) n) (aSz h) = p := by
  unfold ra
  rw [aCo_new, if_pos rfl]
theorem fi_sa : fi (sa h a f) b j = fi h b j := by unfold fi; rw [gf_sa]
theorem fq_sa : fq (sa h a f) b j = fq h b j := by unfold fq; rw [gf_sa]
theorem fi_sr : fi (sr h a p) b j = fi h b j := by unfold fi; rw [gf_sr]
theorem fq_sr : fq (sr h a p) b j = fq h b j := by unfold fq; rw [gf_sr]
theorem fi_pn (e : b ≠ a ∨ j ≠ k) : fi (pf h a k v) b j = fi h b j := by unfold fi; rw [gf_pn e]
theorem fi_pe (ho : isO h a c = true) (hk : k < aNf c) : fi (pf h a k (aI z)) a k = z := by unfold fi; rw [gf_pe ho hk]; rfl
theorem fi_new (e : b < aSz h) : fi (aNew h ce n) b j = fi h b j := by unfold fi; rw [gf_new e]
theorem fq_pn (e : b ≠ a ∨ j ≠ k) : fq (pf h a k v) b j = fq h b j := by unfold fq; rw [gf_pn e]
theorem fq_new (e : b < aSz h) : fq (aNew h ce n) b j = fq h b j := by unfold fq; rw [gf_new e]
theorem fi_of {y : Int} (e : gf h a k = aI y) : fi h a k = y := by unfold fi; rw [e]; rfl
theorem fq_of {y : Option Nat} (e : gf h a k = aQ y) : fq h a k = y := by unfold fq; rw [e]; rfl
theorem gO_ok (e : isO h a c = true) : gO h a c x = x := by unfold gO; rw [e]; rfl
theorem gA_ok (e : isA h a = true) (h1 : 0 ≤ i) (h2 : i < al h a) (h3 : i < 2147483648) : gA h a i x = x := by
  unfold gA inA
  rw [e, wr_id (by omega) h3]
  simp [h1, h2]
theorem gR_ok (e : isR h a c = true) (h1 : 0 ≤ i) (h2 : i < al h a) (h3 : i < 2147483648) : gR h a c i x = x := by
  unfold gR inR
  rw [e, wr_id (by omega) h3]
  simp [h1, h2]
theorem gB_ok {e : Bool} (q : e = true) : gB e x = x := by rw [q]; rfl
theorem gB_t : gB true x = x := rfl
theorem gO_pf : gO (pf h a k v) b c x = gO h b c x := by unfold gO; rw [isO_pf]
theorem gA_pf : gA (pf h a k v) b i x = gA h b i x := by unfold gA inA; rw [isA_pf, al_pf]
theorem gR_pf : gR (pf h a k v) b c i x = gR h b c i x := by unfold gR inR; rw [isR_pf, al_pf]
theorem isAR_pf : isAR (pf h a k v) b = isAR h b := by unfold isAR; rw [isA_pf, isR_pf, isR_pf, isR_pf, isR_pf]
theorem okQ_pf : okQ (pf h a k v) c r = okQ h c r := by unfold okQ; cases r <;> first | rfl | exact isO_pf
theorem okC_pf {s d : Nat} {i1 i2 i3 : Int} : okC (pf h a k v) s d i1 i2 i3 = okC h s d i1 i2 i3 := by unfold okC; rw [isA_pf, isA_pf, al_pf, al_pf]
theorem gO_sa : gO (sa h a f) b c x = gO h b c x := by unfold gO; rw [isO_sa]
theorem gA_sa : gA (sa h a f) b i x = gA h b i x := by unfold gA inA; rw [isA_sa, al_sa]
theorem gR_sa : gR (sa h a f) b c i x = gR h b c i x := by unfold gR inR; rw [isR_sa, al_sa]
theorem isAR_sa : isAR (sa h a f) b = isAR h b := by unfold isAR; rw [isA_sa, isR_sa, isR_sa, isR_sa, isR_sa]
theorem okQ_sa : okQ (sa h a f) c r = okQ h c r := by unfold okQ; cases r <;> first | rfl | exact isO_sa
theorem okC_sa {s d : Nat} {i1 i2 i3 : Int} : okC (sa h a f) s d i1 i2 i3 = okC h s d i1 i2 i3 := by unfold okC; rw [isA_sa, isA_sa, al_sa, al_sa]
theorem gO_sr : gO (sr h a p) b c x = gO h b c x := by unfold gO; rw [isO_sr]
theorem gA_sr : gA (sr h a p) b i x = gA h b i x := by unfold gA inA; rw [isA_sr, al_sr]
theorem gR_sr : gR (sr h a p) b c i x = gR h b c i x := by unfold gR inR; rw [isR_sr, al_sr]
theorem isAR_sr : isAR (sr h a p) b = isAR h b := by unfold isAR; rw [isA_sr, isR_sr, isR_sr, isR_sr, isR_sr]
theorem okQ_sr : okQ (sr h a p) c r = okQ h c r := by unfold okQ; cases r <;> first | rfl | exact isO_sr
theorem okC_sr {s d : Nat} {i1 i2 i3 : Int} : okC (sr h a p) s d i1 i2 i3 = okC h s d i1 i2 i3 := by unfold okC; rw [isA_sr, isA_sr, al_sr, al_sr]
theorem okQ_n : okQ h c none = true := rfl
theorem okC_ok {s d : Nat} {i1 i2 i3 : Int} (e1 : isA h s = true) (e2 : isA h d = true) (h1 : 3 ≤ s) (h2 : 3 ≤ d) (h3 : 0 ≤ i1) (h4 : 0 ≤ i2) (h5 : 0 ≤ i3) (h6 : i1 + i3 ≤ al h s) (h7 : i2 + i3 ≤ al h d) (h8 : al h s < 2147483648) (h9 : al h d < 2147483648) : okC h s d i1 i2 i3 = true := by
  unfold okC
  rw [e1, e2, wr_id (x := i1) (by omega) (by omega), wr_id (x := i2) (by omega) (by omega), wr_id (x := i3) (by omega) (by omega)]
  simp [h1, h2, h3, h4, h5, h6, h7]
theorem aNl_I {x : Int} : aNl (aI x) = true := rfl
theorem aNl_Q {r : Option Nat} : aNl (aQ r) = true := rfl
theorem aNl_U : aNl aU = true := rfl
theorem bl0 : Nat.ble ([] : List aV).length 4 = true := rfl
theorem bl1 {v1 : aV} : Nat.ble [v1].length 4 = true := rfl
theorem bl2 {v1 v2 : aV} : Nat.ble [v1, v2].length 4 = true := rfl
theorem bl3 {v1 v2 v3 : aV} : Nat.ble [v1, v2, v3].length 4 = true := rfl
theorem bl4 {v1 v2 v3 v4 : aV} : Nat.ble [v1, v2, v3, v4].length 4 = true := rfl
end SHA
def shO : List (Nat × Nat) := [(3, 9), (4, 7), (9, 4), (11, 7), (16, 4), (18, 2), (21, 8), (23, 5), (28, 0), (31, 6), (33, 6), (35, 6), (37, 6), (39, 10)]
def shQ : List (Nat × Nat × Nat) := [(3, 0, 4), (3, 1, 11), (3, 2, 18), (3, 3, 21), (3, 4, 23), (3, 5, 28), (3, 6, 30), (4, 1, 5), (4, 6, 6), (4, 7, 7), (4, 9, 8), (11, 1, 12), (11, 6, 13), (11, 7, 14), (11, 9, 15), (9, 0, 10), (16, 0, 17), (18, 0, 19), (18, 1, 20), (21, 0, 22), (23, 1, 24), (23, 2, 25), (23, 4, 26), (23, 5, 27), (28, 0, 29), (31, 2, 32), (33, 2, 34), (35, 2, 36), (37, 2, 38), (39, 0, 40), (39, 1, 41), (39, 2, 42), (39, 3, 43), (39, 4, 44), (39, 5, 45), (39, 6, 46), (39, 7, 47), (39, 8, 48), (39, 9, 49), (39, 10, 50), (39, 11, 51), (39, 12, 52), (39, 13, 53), (39, 14, 54), (39, 15, 55), (39, 19, 56), (39, 20, 57), (39, 22, 58), (39, 24, 59), (39, 25, 60), (39, 26, 61), (39, 27, 62), (39, 29, 63), (39, 30, 64), (39, 31, 65)]
def shI : List (Nat × Nat) := [(3, 7), (3, 8), (3, 9), (4, 0), (4, 2), (4, 3), (4, 4), (4, 5), (4, 8), (11, 0), (11, 2), (11, 3), (11, 4), (11, 5), (11, 8), (18, 2), (18, 5), (18, 6), (23, 0), (23, 3), (28, 1), (31, 0), (31, 1), (33, 0), (33, 1), (35, 0), (35, 1), (37, 0), (37, 1), (39, 16), (39, 17), (39, 18), (39, 21), (39, 23), (39, 28)]
def shA : List (Nat × Nat) := [(1, 6), (2, 24), (5, 8), (6, 20), (12, 8), (13, 20), (19, 441), (20, 20), (22, 6), (24, 8), (25, 6), (26, 48), (27, 2304), (29, 50), (32, 40), (34, 40), (36, 40), (38, 40), (40, 3240), (41, 6), (42, 32400), (43, 60), (44, 540), (45, 60), (46, 60), (47, 60), (48, 60), (49, 60), (50, 60), (51, 60), (52, 8), (53, 20), (54, 6), (55, 36800), (56, 441), (57, 20), (58, 6), (59, 36864), (60, 48), (61, 6), (62, 50), (63, 4), (64, 4), (65, 160)]
def shR : List (Nat × Nat × Nat) := [(7, 0, 6), (8, 1, 60), (10, 2, 0), (14, 0, 6), (15, 1, 60), (17, 2, 0), (30, 3, 4)]
/-- the shape of the fixed cells -/
def Sh (h : aH) : Prop := (66 ≤ aSz h ∧ ai h 1 = ka ∧ ai h 2 = bo) ∧ (∀ q ∈ shO, isO h q.1 q.2 = true) ∧ (∀ q ∈ shQ, gf h q.1 q.2.1 = aQ (some q.2.2)) ∧ (∀ q ∈ shI, gf h q.1 q.2 = aI (fi h q.1 q.2)) ∧ (∀ q ∈ shA, isA h q.1 = true ∧ al h q.1 = q.2) ∧ (∀ q ∈ shR, isR h q.1 q.2.1 = true ∧ al h q.1 = q.2.2) ∧
  (ra h 30 0 = some 31 ∧ ra h 30 1 = some 33 ∧ ra h 30 2 = some 35 ∧ ra h 30 3 = some 37)
section SHB
variable {h : aH} {a b k j n c : Nat} {v : aV} {f g : Int → Int} {p q : Int → Option Nat} {x : aR} {i : Int} {z : Int} {r : Option Nat} {ce : aC}
theorem Sh_sa (w : Sh h) (ha : 3 ≤ a) : Sh (sa h a f) := by
  obtain ⟨⟨w1, w2, w3⟩, w4, w5, w6, w7, w8, w9⟩ := w
  refine ⟨⟨w1, by rw [ai_sn (by omega)]; exact w2, by rw [ai_sn (by omega)]; exact w3⟩, fun q hq => by rw [isO_sa]; exact w4 q hq, fun q hq => by rw [gf_sa]; exact w5 q hq, fun q hq => by rw [gf_sa, fi_sa]; exact w6 q hq, fun q hq => by rw [isA_sa, al_sa]; exact w7 q hq, fun q hq => by rw [isR_sa, al_sa]; exact w8 q hq, by rw [ra_sa]; exact w9⟩
theorem Sh_sr (w : Sh h) (ha : a ≠ 30) : Sh (sr h a p) := by
  obtain ⟨⟨w1, w2, w3⟩, w4, w5, w6, w7, w8, w9⟩ := w
  refine ⟨⟨w1, by rw [ai_sr]; exact w2, by rw [ai_sr]; exact w3⟩, fun q hq => by rw [isO_sr]; exact w4 q hq, fun q hq => by rw [gf_sr]; exact w5 q hq, fun q hq => by rw [gf_sr, fi_sr]; exact w6 q hq, fun q hq => by rw [isA_sr, al_sr]; exact w7 q hq, fun q hq => by rw [isR_sr, al_sr]; exact w8 q hq, by rw [ra_sn (fun e => ha e.symm)]; exact w9⟩
theorem Sh_lt (w : Sh h) : 66 ≤ aSz h := w.1.1
theorem shO_lt : ∀ q ∈ shO, q.1 < 66 := by decide
theorem shQ_lt : ∀ q ∈ shQ, q.1 < 66 := by decide
theorem shI_lt : ∀ q ∈ shI, q.1 < 66 := by decide
theorem shA_lt : ∀ q ∈ shA, q.1 < 66 := by decide
theorem shR_lt : ∀ q ∈ shR, q.1 < 66 := by decide
theorem Sh_new (w : Sh h) : Sh (aNew h ce n) := by
  obtain ⟨⟨w1, w2, w3⟩, w4, w5, w6, w7, w8, w9⟩ := w
  have lt : ∀ b, b < 66 → b < aSz h := fun b hb => Nat.lt_of_lt_of_le hb w1
  refine ⟨⟨Nat.le_succ_of_le w1, by rw [ai_new (lt _ (by decide))]; exact w2, by rw [ai_new (lt _ (by decide))]; exact w3⟩, fun q hq => by rw [isO_new (lt _ (shO_lt q hq))]; exact w4 q hq, fun q hq => by rw [gf_new (lt _ (shQ_lt q hq))]; exact w5 q hq, fun q hq => by rw [gf_new (lt _ (shI_lt q hq)), fi_new (lt _ (shI_lt q hq))]; exact w6 q hq, fun q hq => by rw [isA_new (lt _ (shA_lt q hq)), al_new (lt _ (shA_lt q hq))]; exact w7 q hq, fun q hq => by rw [isR_new (lt _ (shR_lt q hq)), al_new (lt _ (shR_lt q hq))]; exact w8 q hq, by rw [ra_new (lt _ (by decide))]; exact w9⟩
theorem Sh_pf0 (w : Sh h) (hq : ∀ q ∈ shQ, q.1 ≠ a ∨ q.2.1 ≠ k) (hi : ∀ q ∈ shI, gf (pf h a k v) q.1 q.2 = aI (fi (pf h a k v) q.1 q.2)) : Sh (pf h a k v) := by
  obtain ⟨⟨w1, w2, w3⟩, w4, w5, w6, w7, w8, w9⟩ := w
  refine ⟨⟨w1, by rw [ai_pf]; exact w2, by rw [ai_pf]; exact w3⟩, fun q hq => by rw [isO_pf]; exact w4 q hq, fun q h2 => by rw [gf_pn (hq q h2)]; exact w5 q h2, hi, fun q hq => by rw [isA_pf, al_pf]; exact w7 q hq, fun q hq => by rw [isR_pf, al_pf]; exact w8 q hq, by rw [ra_pf]; exact w9⟩
theorem Sh_pfD (w : Sh h) (ha : 66 ≤ a) : Sh (pf h a k v) := by
  refine Sh_pf0 w (fun q hq => Or.inl (by have := shQ_lt q hq; omega)) fun q hq => ?_
  have := shI_lt q hq
  rw [gf_pn (Or.inl (by omega)), fi_pn (Or.inl (by omega))]
  exact w.2.2.2.1 q hq
theorem Sh_pfQ (w : Sh h) (hq : (shQ.all fun q => !(q.1 == a && q.2.1 == k)) = true) (hi : (shI.all fun q => !(q.1 == a && q.2 == k)) = true) : Sh (pf h a k v) := by
  have nb : ∀ x y : Nat, (!(x == a && y == k)) = true → x ≠ a ∨ y ≠ k := by
    intro x y e
    by_cases h1 : x = a
    · by_cases h2 : y = k
      · subst h1; subst h2; simp at e
      · exact Or.inr h2
    · exact Or.inl h1
  refine Sh_pf0 w (fun q h2 => nb _ _ (List.all_eq_true.mp hq q h2)) fun q h2 => ?_
  have := nb _ _ (List.all_eq_true.mp hi q h2)
  rw [gf_pn this, fi_pn this]
  exact w.2.2.2.1 q h2
theorem Sh_pfI (w : Sh h) (hq : (shQ.all fun q => !(q.1 == a && q.2.1 == k)) = true) (hi : ((shI.any fun q => q.1 == a && q.2 == k) && (shO.any fun q => q.1 == a && Nat.blt k (aNf q.2))) = true) : Sh (pf h a k (aI z)) := by
  have nb : ∀ x y : Nat, (!(x == a && y == k)) = true → x ≠ a ∨ y ≠ k := by
    intro x y e
    by_cases h1 : x = a
    · by_cases h2 : y = k
      · subst h1; subst h2; simp at e
      · exact Or.inr h2
    · exact Or.inl h1
  rw [Bool.and_eq_true, List.any_eq_true, List.any_eq_true] at hi
  obtain ⟨-, q0, hq0, e0⟩ := hi
  simp only [Bool.and_eq_true, beq_iff_eq] at e0
  have ho : isO h a q0.2 = true := by rw [← e0.1]; exact w.2.1 q0 hq0
  have hk : k < aNf q0.2 := Nat.lt_of_succ_le (Nat.le_of_ble_eq_true e0.2)
  refine Sh_pf0 w (fun q h2 => nb _ _ (List.all_eq_true.mp hq q h2)) fun q h2 => ?_
  by_cases e : q.1 ≠ a ∨ q.2 ≠ k
  · rw [gf_pn e, fi_pn e]
    exact w.2.2.2.1 q h2
  · have e1 : q.1 = a := by omega
    have e2 : q.2 = k := by omega
    rw [e1, e2, gf_pe ho hk, fi_pe ho hk]
theorem so_3 (w : Sh h) : isO h 3 9 = true := w.2.1 (3, 9) (by decide)
theorem sg_3 (w : Sh h) : gO h 3 9 x = x := gO_ok (so_3 w)
theorem so_4 (w : Sh h) : isO h 4 7 = true := w.2.1 (4, 7) (by decide)
theorem sg_4 (w : Sh h) : gO h 4 7 x = x := gO_ok (so_4 w)
theorem so_9 (w : Sh h) : isO h 9 4 = true := w.2.1 (9, 4) (by decide)
theorem sg_9 (w : Sh h) : gO h 9 4 x = x := gO_ok (so_9 w)
theorem so_11 (w : Sh h) : isO h 11 7 = true := w.2.1 (11, 7) (by decide)
theorem sg_11 (w : Sh h) : gO h 11 7 x = x := gO_ok (so_11 w)
theorem so_16 (w : Sh h) : isO h 16 4 = true := w.2.1 (16, 4) (by decide)
theorem sg_16 (w : Sh h) : gO h 16 4 x = x := gO_ok (so_16 w)
theorem so_18 (w : Sh h) : isO h 18 2 = true := w.2.1 (18, 2) (by decide)
theorem sg_18 (w : Sh h) : gO h 18 2 x = x := gO_ok (so_18 w)
theorem so_21 (w : Sh h) : isO h 21 8 = true := w.2.1 (21, 8) (by decide)
theorem sg_21 (w : Sh h) : gO h 21 8 x = x := gO_ok (so_21 w)
theorem so_23 (w : Sh h) : isO h 23 5 = true := w.2.1 (23, 5) (by decide)
theorem sg_23 (w : Sh h) : gO h 23 5 x = x := gO_ok (so_23 w)
theorem so_28 (w : Sh h) : isO h 28 0 = true := w.2.1 (28, 0) (by decide)
theorem sg_28 (w : Sh h) : gO h 28 0 x = x := gO_ok (so_28 w)
theorem so_31 (w : Sh h) : isO h 31 6 = true := w.2.1 (31, 6) (by decide)
theorem sg_31 (w : Sh h) : gO h 31 6 x = x := gO_ok (so_31 w)
theorem so_33 (w : Sh h) : isO h 33 6 = true := w.2.1 (33, 6) (by decide)
theorem sg_33 (w : Sh h) : gO h 33 6 x = x := gO_ok (so_33 w)
theorem so_35 (w : Sh h) : isO h 35 6 = true := w.2.1 (35, 6) (by decide)
theorem sg_35 (w : Sh h) : gO h 35 6 x = x := gO_ok (so_35 w)
theorem so_37 (w : Sh h) : isO h 37 6 = true := w.2.1 (37, 6) (by decide)
theorem sg_37 (w : Sh h) : gO h 37 6 x = x := gO_ok (so_37 w)
theorem so_39 (w : Sh h) : isO h 39 10 = true := w.2.1 (39, 10) (by decide)
theorem sg_39 (w : Sh h) : gO h 39 10 x = x := gO_ok (so_39 w)
theorem sq_3_0 (w : Sh h) : gf h 3 0 = aQ (some 4) := w.2.2.1 (3, 0, 4) (by decide)
theorem sq_3_1 (w : Sh h) : gf h 3 1 = aQ (some 11) := w.2.2.1 (3, 1, 11) (by decide)
theorem sq_3_2 (w : Sh h) : gf h 3 2 = aQ (some 18) := w.2.2.1 (3, 2, 18) (by decide)
theorem sq_3_3 (w : Sh h) : gf h 3 3 = aQ (some 21) := w.2.2.1 (3, 3, 21) (by decide)
theorem sq_3_4 (w : Sh h) : gf h 3 4 = aQ (some 23) := w.2.2.1 (3, 4, 23) (by decide)
theorem sq_3_5 (w : Sh h) : gf h 3 5 = aQ (some 28) := w.2.2.1 (3, 5, 28) (by decide)
theorem sq_3_6 (w : Sh h) : gf h 3 6 = aQ (some 30) := w.2.2.1 (3, 6, 30) (by decide)
theorem sq_4_1 (w : Sh h) : gf h 4 1 = aQ (some 5) := w.2.2.1 (4, 1, 5) (by decide)
theorem sq_4_6 (w : Sh h) : gf h 4 6 = aQ (some 6) := w.2.2.1 (4, 6, 6) (by decide)
theorem sq_4_7 (w : Sh h) : gf h 4 7 = aQ (some 7) := w.2.2.1 (4, 7, 7) (by decide)
theorem sq_4_9 (w : Sh h) : gf h 4 9 = aQ (some 8) := w.2.2.1 (4, 9, 8) (by decide)
theorem sq_11_1 (w : Sh h) : gf h 11 1 = aQ (some 12) := w.2.2.1 (11, 1, 12) (by decide)
theorem sq_11_6 (w : Sh h) : gf h 11 6 = aQ (some 13) := w.2.2.1 (11, 6, 13) (by decide)
theorem sq_11_7 (w : Sh h) : gf h 11 7 = aQ (some 14) := w.2.2.1 (11, 7, 14) (by decide)
theorem sq_11_9 (w : Sh h) : gf h 11 9 = aQ (some 15) := w.2.2.1 (11, 9, 15) (by decide)
theorem sq_9_0 (w : Sh h) : gf h 9 0 = aQ (some 10) := w.2.2.1 (9, 0, 10) (by decide)
theorem sq_16_0 (w : Sh h) : gf h 16 0 = aQ (some 17) := w.2.2.1 (16, 0, 17) (by decide)
theorem sq_18_0 (w : Sh h) : gf h 18 0 = aQ (some 19) := w.2.2.1 (18, 0, 19) (by decide)
theorem sq_18_1 (w : Sh h) : gf h 18 1 = aQ (some 20) := w.2.2.1 (18, 1, 20) (by decide)
theorem sq_21_0 (w : Sh h) : gf h 21 0 = aQ (some 22) := w.2.2.1 (21, 0, 22) (by decide)
theorem sq_23_1 (w : Sh h) : gf h 23 1 = aQ (some 24) := w.2.2.1 (23, 1, 24) (by decide)
theorem sq_23_2 (w : Sh h) : gf h 23 2 = aQ (some 25) := w.2.2.1 (23, 2, 25) (by decide)
theorem sq_23_4 (w : Sh h) : gf h 23 4 = aQ (some 26) := w.2.2.1 (23, 4, 26) (by decide)
theorem sq_23_5 (w : Sh h) : gf h 23 5 = aQ (some 27) := w.2.2.1 (23, 5, 27) (by decide)
theorem sq_28_0 (w : Sh h) : gf h 28 0 = aQ (some 29) := w.2.2.1 (28, 0, 29) (by decide)
theorem sq_31_2 (w : Sh h) : gf h 31 2 = aQ (some 32) := w.2.2.1 (31, 2, 32) (by decide)
theorem sq_33_2 (w : Sh h) : gf h 33 2 = aQ (some 34) := w.2.2.1 (33, 2, 34) (by decide)
theorem sq_35_2 (w : Sh h) : gf h 35 2 = aQ (some 36) := w.2.2.1 (35, 2, 36) (by decide)
theorem sq_37_2 (w : Sh h) : gf h 37 2 = aQ (some 38) := w.2.2.1 (37, 2, 38) (by decide)
theorem sq_39_0 (w : Sh h) : gf h 39 0 = aQ (some 40) := w.2.2.1 (39, 0, 40) (by decide)
theorem sq_39_1 (w : Sh h) : gf h 39 1 = aQ (some 41) := w.2.2.1 (39, 1, 41) (by decide)
theorem sq_39_2 (w : Sh h) : gf h 39 2 = aQ (some 42) := w.2.2.1 (39, 2, 42) (by decide)
theorem sq_39_3 (w : Sh h) : gf h 39 3 = aQ (some 43) := w.2.2.1 (39, 3, 43) (by decide)
theorem sq_39_4 (w : Sh h) : gf h 39 4 = aQ (some 44) := w.2.2.1 (39, 4, 44) (by decide)
theorem sq_39_5 (w : Sh h) : gf h 39 5 = aQ (some 45) := w.2.2.1 (39, 5, 45) (by decide)
theorem sq_39_6 (w : Sh h) : gf h 39 6 = aQ (some 46) := w.2.2.1 (39, 6, 46) (by decide)
theorem sq_39_7 (w : Sh h) : gf h 39 7 = aQ (some 47) := w.2.2.1 (39, 7, 47) (by decide)
theorem sq_39_8 (w : Sh h) : gf h 39 8 = aQ (some 48) := w.2.2.1 (39, 8, 48) (by decide)
theorem sq_39_9 (w : Sh h) : gf h 39 9 = aQ (some 49) := w.2.2.1 (39, 9, 49) (by decide)
theorem sq_39_10 (w : Sh h) : gf h 39 10 = aQ (some 50) := w.2.2.1 (39, 10, 50) (by decide)
theorem sq_39_11 (w : Sh h) : gf h 39 11 = aQ (some 51) := w.2.2.1 (39, 11, 51) (by decide)
theorem sq_39_12 (w : Sh h) : gf h 39 12 = aQ (some 52) := w.2.2.1 (39, 12, 52) (by decide)
theorem sq_39_13 (w : Sh h) : gf h 39 13 = aQ (some 53) := w.2.2.1 (39, 13, 53) (by decide)
theorem sq_39_14 (w : Sh h) : gf h 39 14 = aQ (some 54) := w.2.2.1 (39, 14, 54) (by decide)
theorem sq_39_15 (w : Sh h) : gf h 39 15 = aQ (some 55) := w.2.2.1 (39, 15, 55) (by decide)
theorem sq_39_19 (w : Sh h) : gf h 39 19 = aQ (some 56) := w.2.2.1 (39, 19, 56) (by decide)
theorem sq_39_20 (w : Sh h) : gf h 39 20 = aQ (some 57) := w.2.2.1 (39, 20, 57) (by decide)
theorem sq_39_22 (w : Sh h) : gf h 39 22 = aQ (some 58) := w.2.2.1 (39, 22, 58) (by decide)
theorem sq_39_24 (w : Sh h) : gf h 39 24 = aQ (some 59) := w.2.2.1 (39, 24, 59) (by decide)
theorem sq_39_25 (w : Sh h) : gf h 39 25 = aQ (some 60) := w.2.2.1 (39, 25, 60) (by decide)
theorem sq_39_26 (w : Sh h) : gf h 39 26 = aQ (some 61) := w.2.2.1 (39, 26, 61) (by decide)
theorem sq_39_27 (w : Sh h) : gf h 39 27 = aQ (some 62) := w.2.2.1 (39, 27, 62) (by decide)
theorem sq_39_29 (w : Sh h) : gf h 39 29 = aQ (some 63) := w.2.2.1 (39, 29, 63) (by decide)
theorem sq_39_30 (w : Sh h) : gf h 39 30 = aQ (some 64) := w.2.2.1 (39, 30, 64) (by decide)
theorem sq_39_31 (w : Sh h) : gf h 39 31 = aQ (some 65) := w.2.2.1 (39, 31, 65) (by decide)
theorem si_3_7 (w : Sh h) : gf h 3 7 = aI (fi h 3 7) := w.2.2.2.1 (3, 7) (by decide)
theorem sp_3_7 (w : Sh h) : gf (pf h 3 7 v) 3 7 = v := gf_pe (so_3 w) (by decide)
theorem sf_3_7 (w : Sh h) : fi (pf h 3 7 (aI z)) 3 7 = z := fi_pe (so_3 w) (by decide)
theorem si_3_8 (w : Sh h) : gf h 3 8 = aI (fi h 3 8) := w.2.2.2.1 (3, 8) (by decide)
theorem sp_3_8 (w : Sh h) : gf (pf h 3 8 v) 3 8 = v := gf_pe (so_3 w) (by decide)
theorem sf_3_8 (w : Sh h) : fi (pf h 3 8 (aI z)) 3 8 = z := fi_pe (so_3 w) (by decide)
theorem si_3_9 (w : Sh h) : gf h 3 9 = aI (fi h 3 9) := w.2.2.2.1 (3, 9) (by decide)
theorem sp_3_9 (w : Sh h) : gf (pf h 3 9 v) 3 9 = v := gf_pe (so_3 w) (by decide)
theorem sf_3_9 (w : Sh h) : fi (pf h 3 9 (aI z)) 3 9 = z := fi_pe (so_3 w) (by decide)
theorem si_4_0 (w : Sh h) : gf h 4 0 = aI (fi h 4 0) := w.2.2.2.1 (4, 0) (by decide)
theorem sp_4_0 (w : Sh h) : gf (pf h 4 0 v) 4 0 = v := gf_pe (so_4 w) (by decide)
theorem sf_4_0 (w : Sh h) : fi (pf h 4 0 (aI z)) 4 0 = z := fi_pe (so_4 w) (by decide)
theorem si_4_2 (w : Sh h) : gf h 4 2 = aI (fi h 4 2) := w.2.2.2.1 (4, 2) (by decide)
theorem sp_4_2 (w : Sh h) : gf (pf h 4 2 v) 4 2 = v := gf_pe (so_4 w) (by decide)
theorem sf_4_2 (w : Sh h) : fi (pf h 4 2 (aI z)) 4 2 = z := fi_pe (so_4 w) (by decide)
theorem si_4_3 (w : Sh h) : gf h 4 3 = aI (fi h 4 3) := w.2.2.2.1 (4, 3) (by decide)
theorem sp_4_3 (w : Sh h) : gf (pf h 4 3 v) 4 3 = v := gf_pe (so_4 w) (by decide)
theorem sf_4_3 (w : Sh h) : fi (pf h 4 3 (aI z)) 4 3 = z := fi_pe (so_4 w) (by decide)
theorem si_4_4 (w : Sh h) : gf h 4 4 = aI (fi h 4 4) := w.2.2.2.1 (4, 4) (by decide)
theorem sp_4_4 (w : Sh h) : gf (pf h 4 4 v) 4 4 = v := gf_pe (so_4 w) (by decide)
theorem sf_4_4 (w : Sh h) : fi (pf h 4 4 (aI z)) 4 4 = z := fi_pe (so_4 w) (by decide)
theorem si_4_5 (w : Sh h) : gf h 4 5 = aI (fi h 4 5) := w.2.2.2.1 (4, 5) (by decide)
theorem sp_4_5 (w : Sh h) : gf (pf h 4 5 v) 4 5 = v := gf_pe (so_4 w) (by decide)
theorem sf_4_5 (w : Sh h) : fi (pf h 4 5 (aI z)) 4 5 = z := fi_pe (so_4 w) (by decide)
theorem si_4_8 (w : Sh h) : gf h 4 8 = aI (fi h 4 8) := w.2.2.2.1 (4, 8) (by decide)
theorem sp_4_8 (w : Sh h) : gf (pf h 4 8 v) 4 8 = v := gf_pe (so_4 w) (by decide)
theorem sf_4_8 (w : Sh h) : fi (pf h 4 8 (aI z)) 4 8 = z := fi_pe (so_4 w) (by decide)
theorem si_11_0 (w : Sh h) : gf h 11 0 = aI (fi h 11 0) := w.2.2.2.1 (11, 0) (by decide)
theorem sp_11_0 (w : Sh h) : gf (pf h 11 0 v) 11 0 = v := gf_pe (so_11 w) (by decide)
theorem sf_11_0 (w : Sh h) : fi (pf h 11 0 (aI z)) 11 0 = z := fi_pe (so_11 w) (by decide)
theorem si_11_2 (w : Sh h) : gf h 11 2 = aI (fi h 11 2) := w.2.2.2.1 (11, 2) (by decide)
theorem sp_11_2 (w : Sh h) : gf (pf h 11 2 v) 11 2 = v := gf_pe (so_11 w) (by decide)
theorem sf_11_2 (w : Sh h) : fi (pf h 11 2 (aI z)) 11 2 = z := fi_pe (so_11 w) (by decide)
theorem si_11_3 (w : Sh h) : gf h 11 3 = aI (fi h 11 3) := w.2.2.2.1 (11, 3) (by decide)
theorem sp_11_3 (w : Sh h) : gf (pf h 11 3 v) 11 3 = v := gf_pe (so_11 w) (by decide)
theorem sf_11_3 (w : Sh h) : fi (pf h 11 3 (aI z)) 11 3 = z := fi_pe (so_11 w) (by decide)
theorem si_11_4 (w : Sh h) : gf h 11 4 = aI (fi h 11 4) := w.2.2.2.1 (11, 4) (by decide)
theorem sp_11_4 (w : Sh h) : gf (pf h 11 4 v) 11 4 = v := gf_pe (so_11 w) (by decide)
theorem sf_11_4 (w : Sh h) : fi (pf h 11 4 (aI z)) 11 4 = z := fi_pe (so_11 w) (by decide)
theorem si_11_5 (w : Sh h) : gf h 11 5 = aI (fi h 11 5) := w.2.2.2.1 (11, 5) (by decide)
theorem sp_11_5 (w : Sh h) : gf (pf h 11 5 v) 11 5 = v := gf_pe (so_11 w) (by decide)
theorem sf_11_5 (w : Sh h) : fi (pf h 11 5 (aI z)) 11 5 = z := fi_pe (so_11 w) (by decide)
theorem si_11_8 (w : Sh h) : gf h 11 8 = aI (fi h 11 8) := w.2.2.2.1 (11, 8) (by decide)
theorem sp_11_8 (w : Sh h) : gf (pf h 11 8 v) 11 8 = v := gf_pe (so_11 w) (by decide)
theorem sf_11_8 (w : Sh h) : fi (pf h 11 8 (aI z)) 11 8 = z := fi_pe (so_11 w) (by decide)
theorem si_18_2 (w : Sh h) : gf h 18 2 = aI (fi h 18 2) := w.2.2.2.1 (18, 2) (by decide)
theorem sp_18_2 (w : Sh h) : gf (pf h 18 2 v) 18 2 = v := gf_pe (so_18 w) (by decide)
theorem sf_18_2 (w : Sh h) : fi (pf h 18 2 (aI z)) 18 2 = z := fi_pe (so_18 w) (by decide)
theorem si_18_5 (w : Sh h) : gf h 18 5 = aI (fi h 18 5) := w.2.2.2.1 (18, 5) (by decide)
theorem sp_18_5 (w : Sh h) : gf (pf h 18 5 v) 18 5 = v := gf_pe (so_18 w) (by decide)
theorem sf_18_5 (w : Sh h) : fi (pf h 18 5 (aI z)) 18 5 = z := fi_pe (so_18 w) (by decide)
theorem si_18_6 (w : Sh h) : gf h 18 6 = aI (fi h 18 6) := w.2.2.2.1 (18, 6) (by decide)
theorem sp_18_6 (w : Sh h) : gf (pf h 18 6 v) 18 6 = v := gf_pe (so_18 w) (by decide)
theorem sf_18_6 (w : Sh h) : fi (pf h 18 6 (aI z)) 18 6 = z := fi_pe (so_18 w) (by decide)
theorem si_23_0 (w : Sh h) : gf h 23 0 = aI (fi h 23 0) := w.2.2.2.1 (23, 0) (by decide)
theorem sp_23_0 (w : Sh h) : gf (pf h 23 0 v) 23 0 = v := gf_pe (so_23 w) (by decide)
theorem sf_23_0 (w : Sh h) : fi (pf h 23 0 (aI z)) 23 0 = z := fi_pe (so_23 w) (by decide)
theorem si_23_3 (w : Sh h) : gf h 23 3 = aI (fi h 23 3) := w.2.2.2.1 (23, 3) (by decide)
theorem sp_23_3 (w : Sh h) : gf (pf h 23 3 v) 23 3 = v := gf_pe (so_23 w) (by decide)
theorem sf_23_3 (w : Sh h) : fi (pf h 23 3 (aI z)) 23 3 = z := fi_pe (so_23 w) (by decide)
theorem si_28_1 (w : Sh h) : gf h 28 1 = aI (fi h 28 1) := w.2.2.2.1 (28, 1) (by decide)
theorem sp_28_1 (w : Sh h) : gf (pf h 28 1 v) 28 1 = v := gf_pe (so_28 w) (by decide)
theorem sf_28_1 (w : Sh h) : fi (pf h 28 1 (aI z)) 28 1 = z := fi_pe (so_28 w) (by decide)
theorem si_31_0 (w : Sh h) : gf h 31 0 = aI (fi h 31 0) := w.2.2.2.1 (31, 0) (by decide)
theorem sp_31_0 (w : Sh h) : gf (pf h 31 0 v) 31 0 = v := gf_pe (so_31 w) (by decide)
theorem sf_31_0 (w : Sh h) : fi (pf h 31 0 (aI z)) 31 0 = z := fi_pe (so_31 w) (by decide)
theorem si_31_1 (w : Sh h) : gf h 31 1 = aI (fi h 31 1) := w.2.2.2.1 (31, 1) (by decide)
theorem sp_31_1 (w : Sh h) : gf (pf h 31 1 v) 31 1 = v := gf_pe (so_31 w) (by decide)
theorem sf_31_1 (w : Sh h) : fi (pf h 31 1 (aI z)) 31 1 = z := fi_pe (so_31 w) (by decide)
theorem si_33_0 (w : Sh h) : gf h 33 0 = aI (fi h 33 0) := w.2.2.2.1 (33, 0) (by decide)
theorem sp_33_0 (w : Sh h) : gf (pf h 33 0 v) 33 0 = v := gf_pe (so_33 w) (by decide)
theorem sf_33_0 (w : Sh h) : fi (pf h 33 0 (aI z)) 33 0 = z := fi_pe (so_33 w) (by decide)
theorem si_33_1 (w : Sh h) : gf h 33 1 = aI (fi h 33 1) := w.2.2.2.1 (33, 1) (by decide)
theorem sp_33_1 (w : Sh h) : gf (pf h 33 1 v) 33 1 = v := gf_pe (so_33 w) (by decide)
theorem sf_33_1 (w : Sh h) : fi (pf h 33 1 (aI z)) 33 1 = z := fi_pe (so_33 w) (by decide)
theorem si_35_0 (w : Sh h) : gf h 35 0 = aI (fi h 35 0) := w.2.2.2.1 (35, 0) (by decide)
theorem sp_35_0 (w : Sh h) : gf (pf h 35 0 v) 35 0 = v := gf_pe (so_35 w) (by decide)
theorem sf_35_0 (w : Sh h) : fi (pf h 35 0 (aI z)) 35 0 = z := fi_pe (so_35 w) (by decide)
theorem si_35_1 (w : Sh h) : gf h 35 1 = aI (fi h 35 1) := w.2.2.2.1 (35, 1) (by decide)
theorem sp_35_1 (w : Sh h) : gf (pf h 35 1 v) 35 1 = v := gf_pe (so_35 w) (by decide)
theorem sf_35_1 (w : Sh h) : fi (pf h 35 1 (aI z)) 35 1 = z := fi_pe (so_35 w) (by decide)
theorem si_37_0 (w : Sh h) : gf h 37 0 = aI (fi h 37 0) := w.2.2.2.1 (37, 0) (by decide)
theorem sp_37_0 (w : Sh h) : gf (pf h 37 0 v) 37 0 = v := gf_pe (so_37 w) (by decide)
theorem sf_37_0 (w : Sh h) : fi (pf h 37 0 (aI z)) 37 0 = z := fi_pe (so_37 w) (by decide)
theorem si_37_1 (w : Sh h) : gf h 37 1 = aI (fi h 37 1) := w.2.2.2.1 (37, 1) (by decide)
theorem sp_37_1 (w : Sh h) : gf (pf h 37 1 v) 37 1 = v := gf_pe (so_37 w) (by decide)
theorem sf_37_1 (w : Sh h) : fi (pf h 37 1 (aI z)) 37 1 = z := fi_pe (so_37 w) (by decide)
theorem si_39_16 (w : Sh h) : gf h 39 16 = aI (fi h 39 16) := w.2.2.2.1 (39, 16) (by decide)
theorem sp_39_16 (w : Sh h) : gf (pf h 39 16 v) 39 16 = v := gf_pe (so_39 w) (by decide)
theorem sf_39_16 (w : Sh h) : fi (pf h 39 16 (aI z)) 39 16 = z := fi_pe (so_39 w) (by decide)
theorem si_39_17 (w : Sh h) : gf h 39 17 = aI (fi h 39 17) := w.2.2.2.1 (39, 17) (by decide)
theorem sp_39_17 (w : Sh h) : gf (pf h 39 17 v) 39 17 = v := gf_pe (so_39 w) (by decide)
theorem sf_39_17 (w : Sh h) : fi (pf h 39 17 (aI z)) 39 17 = z := fi_pe (so_39 w) (by decide)
theorem si_39_18 (w : Sh h) : gf h 39 18 = aI (fi h 39 18) := w.2.2.2.1 (39, 18) (by decide)
theorem sp_39_18 (w : Sh h) : gf (pf h 39 18 v) 39 18 = v := gf_pe (so_39 w) (by decide)
theorem sf_39_18 (w : Sh h) : fi (pf h 39 18 (aI z)) 39 18 = z := fi_pe (so_39 w) (by decide)
theorem si_39_21 (w : Sh h) : gf h 39 21 = aI (fi h 39 21) := w.2.2.2.1 (39, 21) (by decide)
theorem sp_39_21 (w : Sh h) : gf (pf h 39 21 v) 39 21 = v := gf_pe (so_39 w) (by decide)
theorem sf_39_21 (w : Sh h) : fi (pf h 39 21 (aI z)) 39 21 = z := fi_pe (so_39 w) (by decide)
theorem si_39_23 (w : Sh h) : gf h 39 23 = aI (fi h 39 23) := w.2.2.2.1 (39, 23) (by decide)
theorem sp_39_23 (w : Sh h) : gf (pf h 39 23 v) 39 23 = v := gf_pe (so_39 w) (by decide)
theorem sf_39_23 (w : Sh h) : fi (pf h 39 23 (aI z)) 39 23 = z := fi_pe (so_39 w) (by decide)
theorem si_39_28 (w : Sh h) : gf h 39 28 = aI (fi h 39 28) := w.2.2.2.1 (39, 28) (by decide)
theorem sp_39_28 (w : Sh h) : gf (pf h 39 28 v) 39 28 = v := gf_pe (so_39 w) (by decide)
theorem sf_39_28 (w : Sh h) : fi (pf h 39 28 (aI z)) 39 28 = z := fi_pe (so_39 w) (by decide)
theorem sp_18_3 (w : Sh h) : gf (pf h 18 3 v) 18 3 = v := gf_pe (so_18 w) (by decide)
theorem sp_18_4 (w : Sh h) : gf (pf h 18 4 v) 18 4 = v := gf_pe (so_18 w) (by decide)
theorem sA_1 (w : Sh h) : isA h 1 = true := (w.2.2.2.2.1 (1, 6) (by decide)).1
theorem sl_1 (w : Sh h) : al h 1 = 6 := (w.2.2.2.2.1 (1, 6) (by decide)).2
theorem sG_1 (w : Sh h) (h1 : 0 ≤ i) (h2 : i < 6) : gA h 1 i x = x := gA_ok (sA_1 w) h1 (by rw [sl_1 w]; omega) (by omega)
theorem sE_1 (w : Sh h) : ai (sa h 1 f) 1 = f := ai_se (sA_1 w)
theorem sA_2 (w : Sh h) : isA h 2 = true := (w.2.2.2.2.1 (2, 24) (by decide)).1
theorem sl_2 (w : Sh h) : al h 2 = 24 := (w.2.2.2.2.1 (2, 24) (by decide)).2
theorem sG_2 (w : Sh h) (h1 : 0 ≤ i) (h2 : i < 24) : gA h 2 i x = x := gA_ok (sA_2 w) h1 (by rw [sl_2 w]; omega) (by omega)
theorem sE_2 (w : Sh h) : ai (sa h 2 f) 2 = f := ai_se (sA_2 w)
theorem sA_5 (w : Sh h) : isA h 5 = true := (w.2.2.2.2.1 (5, 8) (by decide)).1
theorem sl_5 (w : Sh h) : al h 5 = 8 := (w.2.2.2.2.1 (5, 8) (by decide)).2
theorem sG_5 (w : Sh h) (h1 : 0 ≤ i) (h2 : i < 8) : gA h 5 i x = x := gA_ok (sA_5 w) h1 (by rw [sl_5 w]; omega) (by omega)
theorem sE_5 (w : Sh h) : ai (sa h 5 f) 5 = f := ai_se (sA_5 w)
theorem sA_6 (w : Sh h) : isA h 6 = true := (w.2.2.2.2.1 (6, 20) (by decide)).1
theorem sl_6 (w : Sh h) : al h 6 = 20 := (w.2.2.2.2.1 (6, 20) (by decide)).2
theorem sG_6 (w : Sh h) (h1 : 0 ≤ i) (h2 : i < 20) : gA h 6 i x = x := gA_ok (sA_6 w) h1 (by rw [sl_6 w]; omega) (by omega)
theorem sE_6 (w : Sh h) : ai (sa h 6 f) 6 = f := ai_se (sA_6 w)
theorem sA_12 (w : Sh h) : isA h 12 = true := (w.2.2.2.2.1 (12, 8) (by decide)).1
theorem sl_12 (w : Sh h) : al h 12 = 8 := (w.2.2.2.2.1 (12, 8) (by decide)).2
theorem sG_12 (w : Sh h) (h1 : 0 ≤ i) (h2 : i < 8) : gA h 12 i x = x := gA_ok (sA_12 w) h1 (by rw [sl_12 w]; omega) (by omega)
theorem sE_12 (w : Sh h) : ai (sa h 12 f) 12 = f := ai_se (sA_12 w)
theorem sA_13 (w : Sh h) : isA h 13 = true := (w.2.2.2.2.1 (13, 20) (by decide)).1
theorem sl_13 (w : Sh h) : al h 13 = 20 := (w.2.2.2.2.1 (13, 20) (by decide)).2
theorem sG_13 (w : Sh h) (h1 : 0 ≤ i) (h2 : i < 20) : gA h 13 i x = x := gA_ok (sA_13 w) h1 (by rw [sl_13 w]; omega) (by omega)
theorem sE_13 (w : Sh h) : ai (sa h 13 f) 13 = f := ai_se (sA_13 w)
theorem sA_19 (w : Sh h) : isA h 19 = true := (w.2.2.2.2.1 (19, 441) (by decide)).1
theorem sl_19 (w : Sh h) : al h 19 = 441 := (w.2.2.2.2.1 (19, 441) (by decide)).2
theorem sG_19 (w : Sh h) (h1 : 0 ≤ i) (h2 : i < 441) : gA h 19 i x = x := gA_ok (sA_19 w) h1 (by rw [sl_19 w]; omega) (by omega)
theorem sE_19 (w : Sh h) : ai (sa h 19 f) 19 = f := ai_se (sA_19 w)
theorem sA_20 (w : Sh h) : isA h 20 = true := (w.2.2.2.2.1 (20, 20) (by decide)).1
theorem sl_20 (w : Sh h) : al h 20 = 20 := (w.2.2.2.2.1 (20, 20) (by decide)).2
theorem sG_20 (w : Sh h) (h1 : 0 ≤ i) (h2 : i < 20) : gA h 20 i x = x := gA_ok (sA_20 w) h1 (by rw [sl_20 w]; omega) (by omega)
theorem sE_20 (w : Sh h) : ai (sa h 20 f) 20 = f := ai_se (sA_20 w)
theorem sA_22 (w : Sh h) : isA h 22 = true := (w.2.2.2.2.1 (22, 6) (by decide)).1
theorem sl_22 (w : Sh h) : al h 22 = 6 := (w.2.2.2.2.1 (22, 6) (by decide)).2
theorem sG_22 (w : Sh h) (h1 : 0 ≤ i) (h2 : i < 6) : gA h 22 i x = x := gA_ok (sA_22 w) h1 (by rw [sl_22 w]; omega) (by omega)
theorem sE_22 (w : Sh h) : ai (sa h 22 f) 22 = f := ai_se (sA_22 w)
theorem sA_24 (w : Sh h) : isA h 24 = true := (w.2.2.2.2.1 (24, 8) (by decide)).1
theorem sl_24 (w : Sh h) : al h 24 = 8 := (w.2.2.2.2.1 (24, 8) (by decide)).2
theorem sG_24 (w : Sh h) (h1 : 0 ≤ i) (h2 : i < 8) : gA h 24 i x = x := gA_ok (sA_24 w) h1 (by rw [sl_24 w]; omega) (by omega)
theorem sE_24 (w : Sh h) : ai (sa h 24 f) 24 = f := ai_se (sA_24 w)
theorem sA_25 (w : Sh h) : isA h 25 = true := (w.2.2.2.2.1 (25, 6) (by decide)).1
theorem sl_25 (w : Sh h) : al h 25 = 6 := (w.2.2.2.2.1 (25, 6) (by decide)).2
theorem sG_25 (w : Sh h) (h1 : 0 ≤ i) (h2 : i < 6) : gA h 25 i x = x := gA_ok (sA_25 w) h1 (by rw [sl_25 w]; omega) (by omega)
theorem sE_25 (w : Sh h) : ai (sa h 25 f) 25 = f := ai_se (sA_25 w)
theorem sA_26 (w : Sh h) : isA h 26 = true := (w.2.2.2.2.1 (26, 48) (by decide)).1
theorem sl_26 (w : Sh h) : al h 26 = 48 := (w.2.2.2.2.1 (26, 48) (by decide)).2
theorem sG_26 (w : Sh h) (h1 : 0 ≤ i) (h2 : i < 48) : gA h 26 i x = x := gA_ok (sA_26 w) h1 (by rw [sl_26 w]; omega) (by omega)
theorem sE_26 (w : Sh h) : ai (sa h 26 f) 26 = f := ai_se (sA_26 w)
theorem sA_27 (w : Sh h) : isA h 27 = true := (w.2.2.2.2.1 (27, 2304) (by decide)).1
theorem sl_27 (w : Sh h) : al h 27 = 2304 := (w.2.2.2.2.1 (27, 2304) (by decide)).2
theorem sG_27 (w : Sh h) (h1 : 0 ≤ i) (h2 : i < 2304) : gA h 27 i x = x := gA_ok (sA_27 w) h1 (by rw [sl_27 w]; omega) (by omega)
theorem sE_27 (w : Sh h) : ai (sa h 27 f) 27 = f := ai_se (sA_27 w)
theorem sA_29 (w : Sh h) : isA h 29 = true := (w.2.2.2.2.1 (29, 50) (by decide)).1
theorem sl_29 (w : Sh h) : al h 29 = 50 := (w.2.2.2.2.1 (29, 50) (by decide)).2
theorem sG_29 (w : Sh h) (h1 : 0 ≤ i) (h2 : i < 50) : gA h 29 i x = x := gA_ok (sA_29 w) h1 (by rw [sl_29 w]; omega) (by omega)
theorem sE_29 (w : Sh h) : ai (sa h 29 f) 29 = f := ai_se (sA_29 w)
theorem sA_32 (w : Sh h) : isA h 32 = true := (w.2.2.2.2.1 (32, 40) (by decide)).1
theorem sl_32 (w : Sh h) : al h 32 = 40 := (w.2.2.2.2.1 (32, 40) (by decide)).2
theorem sG_32 (w : Sh h) (h1 : 0 ≤ i) (h2 : i < 40) : gA h 32 i x = x := gA_ok (sA_32 w) h1 (by rw [sl_32 w]; omega) (by omega)
theorem sE_32 (w : Sh h) : ai (sa h 32 f) 32 = f := ai_se (sA_32 w)
theorem sA_34 (w : Sh h) : isA h 34 = true := (w.2.2.2.2.1 (34, 40) (by decide)).1
theorem sl_34 (w : Sh h) : al h 34 = 40 := (w.2.2.2.2.1 (34, 40) (by decide)).2
theorem sG_34 (w : Sh h) (h1 : 0 ≤ i) (h2 : i < 40) : gA h 34 i x = x := gA_ok (sA_34 w) h1 (by rw [sl_34 w]; omega) (by omega)
theorem sE_34 (w : Sh h) : ai (sa h 34 f) 34 = f := ai_se (sA_34 w)
theorem sA_36 (w : Sh h) : isA h 36 = true := (w.2.2.2.2.1 (36, 40) (by decide)).1
theorem sl_36 (w : Sh h) : al h 36 = 40 := (w.2.2.2.2.1 (36, 40) (by decide)).2
theorem sG_36 (w : Sh h) (h1 : 0 ≤ i) (h2 : i < 40) : gA h 36 i x = x := gA_ok (sA_36 w) h1 (by rw [sl_36 w]; omega) (by omega)
theorem sE_36 (w : Sh h) : ai (sa h 36 f) 36 = f := ai_se (sA_36 w)
theorem sA_38 (w : Sh h) : isA h 38 = true := (w.2.2.2.2.1 (38, 40) (by decide)).1
theorem sl_38 (w : Sh h) : al h 38 = 40 := (w.2.2.2.2.1 (38, 40) (by decide)).2
theorem sG_38 (w : Sh h) (h1 : 0 ≤ i) (h2 : i < 40) : gA h 38 i x = x := gA_ok (sA_38 w) h1 (by rw [sl_38 w]; omega) (by omega)
theorem sE_38 (w : Sh h) : ai (sa h 38 f) 38 = f := ai_se (sA_38 w)
theorem sA_40 (w : Sh h) : isA h 40 = true := (w.2.2.2.2.1 (40, 3240) (by decide)).1
theorem sl_40 (w : Sh h) : al h 40 = 3240 := (w.2.2.2.2.1 (40, 3240) (by decide)).2
theorem sG_40 (w : Sh h) (h1 : 0 ≤ i) (h2 : i < 3240) : gA h 40 i x = x := gA_ok (sA_40 w) h1 (by rw [sl_40 w]; omega) (by omega)
theorem sE_40 (w : Sh h) : ai (sa h 40 f) 40 = f := ai_se (sA_40 w)
theorem sA_41 (w : Sh h) : isA h 41 = true := (w.2.2.2.2.1 (41, 6) (by decide)).1
theorem sl_41 (w : Sh h) : al h 41 = 6 := (w.2.2.2.2.1 (41, 6) (by decide)).2
theorem sG_41 (w : Sh h) (h1 : 0 ≤ i) (h2 : i < 6) : gA h 41 i x = x := gA_ok (sA_41 w) h1 (by rw [sl_41 w]; omega) (by omega)
theorem sE_41 (w : Sh h) : ai (sa h 41 f) 41 = f := ai_se (sA_41 w)
theorem sA_42 (w : Sh h) : isA h 42 = true := (w.2.2.2.2.1 (42, 32400) (by decide)).1
theorem sl_42 (w : Sh h) : al h 42 = 32400 := (w.2.2.2.2.1 (42, 32400) (by decide)).2
theorem sG_42 (w : Sh h) (h1 : 0 ≤ i) (h2 : i < 32400) : gA h 42 i x = x := gA_ok (sA_42 w) h1 (by rw [sl_42 w]; omega) (by omega)
theorem sE_42 (w : Sh h) : ai (sa h 42 f) 42 = f := ai_se (sA_42 w)
theorem sA_43 (w : Sh h) : isA h 43 = true := (w.2.2.2.2.1 (43, 60) (by decide)).1
theorem sl_43 (w : Sh h) : al h 43 = 60 := (w.2.2.2.2.1 (43, 60) (by decide)).2
theorem sG_43 (w : Sh h) (h1 : 0 ≤ i) (h2 : i < 60) : gA h 43 i x = x := gA_ok (sA_43 w) h1 (by rw [sl_43 w]; omega) (by omega)
theorem sE_43 (w : Sh h) : ai (sa h 43 f) 43 = f := ai_se (sA_43 w)
theorem sA_44 (w : Sh h) : isA h 44 = true := (w.2.2.2.2.1 (44, 540) (by decide)).1
theorem sl_44 (w : Sh h) : al h 44 = 540 := (w.2.2.2.2.1 (44, 540) (by decide)).2
theorem sG_44 (w : Sh h) (h1 : 0 ≤ i) (h2 : i < 540) : gA h 44 i x = x := gA_ok (sA_44 w) h1 (by rw [sl_44 w]; omega) (by omega)
theorem sE_44 (w : Sh h) : ai (sa h 44 f) 44 = f := ai_se (sA_44 w)
theorem sA_45 (w : Sh h) : isA h 45 = true := (w.2.2.2.2.1 (45, 60) (by decide)).1
theorem sl_45 (w : Sh h) : al h 45 = 60 := (w.2.2.2.2.1 (45, 60) (by decide)).2
theorem sG_45 (w : Sh h) (h1 : 0 ≤ i) (h2 : i < 60) : gA h 45 i x = x := gA_ok (sA_45 w) h1 (by rw [sl_45 w]; omega) (by omega)
theorem sE_45 (w : Sh h) : ai (sa h 45 f) 45 = f := ai_se (sA_45 w)
theorem sA_46 (w : Sh h) : isA h 46 = true := (w.2.2.2.2.1 (46, 60) (by decide)).1
theorem sl_46 (w : Sh h) : al h 46 = 60 := (w.2.2.2.2.1 (46, 60) (by decide)).2
theorem sG_46 (w : Sh h) (h1 : 0 ≤ i) (h2 : i < 60) : gA h 46 i x = x := gA_ok (sA_46 w) h1 (by rw [sl_46 w]; omega) (by omega)
theorem sE_46 (w : Sh h) : ai (sa h 46 f) 46 = f := ai_se (sA_46 w)
theorem sA_47 (w : Sh h) : isA h 47 = true := (w.2.2.2.2.1 (47, 60) (by decide)).1
theorem sl_47 (w : Sh h) : al h 47 = 60 := (w.2.2.2.2.1 (47, 60) (by decide)).2
theorem sG_47 (w : Sh h) (h1 : 0 ≤ i) (h2 : i < 60) : gA h 47 i x = x := gA_ok (sA_47 w) h1 (by rw [sl_47 w]; omega) (by omega)
theorem sE_47 (w : Sh h) : ai (sa h 47 f) 47 = f := ai_se (sA_47 w)
theorem sA_48 (w : Sh h) : isA h 48 = true := (w.2.2.2.2.1 (48, 60) (by decide)).1
theorem sl_48 (w : Sh h) : al h 48 = 60 := (w.2.2.2.2.1 (48, 60) (by decide)).2
theorem sG_48 (w : Sh h) (h1 : 0 ≤ i) (h2 : i < 60) : gA h 48 i x = x := gA_ok (sA_48 w) h1 (by rw [sl_48 w]; omega) (by omega)
theorem sE_48 (w : Sh h) : ai (sa h 48 f) 48 = f := ai_se (sA_48 w)
theorem sA_49 (w : Sh h) : isA h 49 = true := (w.2.2.2.2.1 (49, 60) (by decide)).1
theorem sl_49 (w : Sh h) : al h 49 = 60 := (w.2.2.2.2.1 (49, 60) (by decide)).2
theorem sG_49 (w : Sh h) (h1 : 0 ≤ i) (h2 : i < 60) : gA h 49 i x = x := gA_ok (sA_49 w) h1 (by rw [sl_49 w]; omega) (by omega)
theorem sE_49 (w : Sh h) : ai (sa h 49 f) 49 = f := ai_se (sA_49 w)
theorem sA_50 (w : Sh h) : isA h 50 = true := (w.2.2.2.2.1 (50, 60) (by decide)).1
theorem sl_50 (w : Sh h) : al h 50 = 60 := (w.2.2.2.2.1 (50, 60) (by decide)).2
theorem sG_50 (w : Sh h) (h1 : 0 ≤ i) (h2 : i < 60) : gA h 50 i x = x := gA_ok (sA_50 w) h1 (by rw [sl_50 w]; omega) (by omega)
theorem sE_50 (w : Sh h) : ai (sa h 50 f) 50 = f := ai_se (sA_50 w)
theorem sA_51 (w : Sh h) : isA h 51 = true := (w.2.2.2.2.1 (51, 60) (by decide)).1
theorem sl_51 (w : Sh h) : al h 51 = 60 := (w.2.2.2.2.1 (51, 60) (by decide)).2
theorem sG_51 (w : Sh h) (h1 : 0 ≤ i) (h2 : i < 60) : gA h 51 i x = x := gA_ok (sA_51 w) h1 (by rw [sl_51 w]; omega) (by omega)
theorem sE_51 (w : Sh h) : ai (sa h 51 f) 51 = f := ai_se (sA_51 w)
theorem sA_52 (w : Sh h) : isA h 52 = true := (w.2.2.2.2.1 (52, 8) (by decide)).1
theorem sl_52 (w : Sh h) : al h 52 = 8 := (w.2.2.2.2.1 (52, 8) (by decide)).2
theorem sG_52 (w : Sh h) (h1 : 0 ≤ i) (h2 : i < 8) : gA h 52 i x = x := gA_ok (sA_52 w) h1 (by rw [sl_52 w]; omega) (by omega)
theorem sE_52 (w : Sh h) : ai (sa h 52 f) 52 = f := ai_se (sA_52 w)
theorem sA_53 (w : Sh h) : isA h 53 = true := (w.2.2.2.2.1 (53, 20) (by decide)).1
theorem sl_53 (w : Sh h) : al h 53 = 20 := (w.2.2.2.2.1 (53, 20) (by decide)).2
theorem sG_53 (w : Sh h) (h1 : 0 ≤ i) (h2 : i < 20) : gA h 53 i x = x := gA_ok (sA_53 w) h1 (by rw [sl_53 w]; omega) (by omega)
theorem sE_53 (w : Sh h) : ai (sa h 53 f) 53 = f := ai_se (sA_53 w)
theorem sA_54 (w : Sh h) : isA h 54 = true := (w.2.2.2.2.1 (54, 6) (by decide)).1
theorem sl_54 (w : Sh h) : al h 54 = 6 := (w.2.2.2.2.1 (54, 6) (by decide)).2
theorem sG_54 (w : Sh h) (h1 : 0 ≤ i) (h2 : i < 6) : gA h 54 i x = x := gA_ok (sA_54 w) h1 (by rw [sl_54 w]; omega) (by omega)
theorem sE_54 (w : Sh h) : ai (sa h 54 f) 54 = f := ai_se (sA_54 w)
theorem sA_55 (w : Sh h) : isA h 55 = true := (w.2.2.2.2.1 (55, 36800) (by decide)).1
theorem sl_55 (w : Sh h) : al h 55 = 36800 := (w.2.2.2.2.1 (55, 36800) (by decide)).2
theorem sG_55 (w : Sh h) (h1 : 0 ≤ i) (h2 : i < 36800) : gA h 55 i x = x := gA_ok (sA_55 w) h1 (by rw [sl_55 w]; omega) (by omega)
theorem sE_55 (w : Sh h) : ai (sa h 55 f) 55 = f := ai_se (sA_55 w)
theorem sA_56 (w : Sh h) : isA h 56 = true := (w.2.2.2.2.1 (56, 441) (by decide)).1
theorem sl_56 (w : Sh h) : al h 56 = 441 := (w.2.2.2.2.1 (56, 441) (by decide)).2
theorem sG_56 (w : Sh h) (h1 : 0 ≤ i) (h2 : i < 441) : gA h 56 i x = x := gA_ok (sA_56 w) h1 (by rw [sl_56 w]; omega) (by omega)
theorem sE_56 (w : Sh h) : ai (sa h 56 f) 56 = f := ai_se (sA_56 w)
theorem sA_57 (w : Sh h) : isA h 57 = true := (w.2.2.2.2.1 (57, 20) (by decide)).1
theorem sl_57 (w : Sh h) : al h 57 = 20 := (w.2.2.2.2.1 (57, 20) (by decide)).2
theorem sG_57 (w : Sh h) (h1 : 0 ≤ i) (h2 : i < 20) : gA h 57 i x = x := gA_ok (sA_57 w) h1 (by rw [sl_57 w]; omega) (by omega)
theorem sE_57 (w : Sh h) : ai (sa h 57 f) 57 = f := ai_se (sA_57 w)
theorem sA_58 (w : Sh h) : isA h 58 = true := (w.2.2.2.2.1 (58, 6) (by decide)).1
theorem sl_58 (w : Sh h) : al h 58 = 6 := (w.2.2.2.2.1 (58, 6) (by decide)).2
theorem sG_58 (w : Sh h) (h1 : 0 ≤ i) (h2 : i < 6) : gA h 58 i x = x := gA_ok (sA_58 w) h1 (by rw [sl_58 w]; omega) (by omega)
theorem sE_58 (w : Sh h) : ai (sa h 58 f) 58 = f := ai_se (sA_58 w)
theorem sA_59 (w : Sh h) : isA h 59 = true := (w.2.2.2.2.1 (59, 36864) (by decide)).1
theorem sl_59 (w : Sh h) : al h 59 = 36864 := (w.2.2.2.2.1 (59, 36864) (by decide)).2
theorem sG_59 (w : Sh h) (h1 : 0 ≤ i) (h2 : i < 36864) : gA h 59 i x = x := gA_ok (sA_59 w) h1 (by rw [sl_59 w]; omega) (by omega)
theorem sE_59 (w : Sh h) : ai (sa h 59 f) 59 = f := ai_se (sA_59 w)
theorem sA_60 (w : Sh h) : isA h 60 = true := (w.2.2.2.2.1 (60, 48) (by decide)).1
theorem sl_60 (w : Sh h) : al h 60 = 48 := (w.2.2.2.2.1 (60, 48) (by decide)).2
theorem sG_60 (w : Sh h) (h1 : 0 ≤ i) (h2 : i < 48) : gA h 60 i x = x := gA_ok (sA_60 w) h1 (by rw [sl_60 w]; omega) (by omega)
theorem sE_60 (w : Sh h) : ai (sa h 60 f) 60 = f := ai_se (sA_60 w)
theorem sA_61 (w : Sh h) : isA h 61 = true := (w.2.2.2.2.1 (61, 6) (by decide)).1
theorem sl_61 (w : Sh h) : al h 61 = 6 := (w.2.2.2.2.1 (61, 6) (by decide)).2
theorem sG_61 (w : Sh h) (h1 : 0 ≤ i) (h2 : i < 6) : gA h 61 i x = x := gA_ok (sA_61 w) h1 (by rw [sl_61 w]; omega) (by omega)
theorem sE_61 (w : Sh h) : ai (sa h 61 f) 61 = f := ai_se (sA_61 w)
theorem sA_62 (w : Sh h) : isA h 62 = true := (w.2.2.2.2.1 (62, 50) (by decide)).1
theorem sl_62 (w : Sh h) : al h 62 = 50 := (w.2.2.2.2.1 (62, 50) (by decide)).2
theorem sG_62 (w : Sh h) (h1 : 0 ≤ i) (h2 : i < 50) : gA h 62 i x = x := gA_ok (sA_62 w) h1 (by rw [sl_62 w]; omega) (by omega)
theorem sE_62 (w : Sh h) : ai (sa h 62 f) 62 = f := ai_se (sA_62 w)
theorem sA_63 (w : Sh h) : isA h 63 = true := (w.2.2.2.2.1 (63, 4) (by decide)).1
theorem sl_63 (w : Sh h) : al h 63 = 4 := (w.2.2.2.2.1 (63, 4) (by decide)).2
theorem sG_63 (w : Sh h) (h1 : 0 ≤ i) (h2 : i < 4) : gA h 63 i x = x := gA_ok (sA_63 w) h1 (by rw [sl_63 w]; omega) (by omega)
theorem sE_63 (w : Sh h) : ai (sa h 63 f) 63 = f := ai_se (sA_63 w)
theorem sA_64 (w : Sh h) : isA h 64 = true := (w.2.2.2.2.1 (64, 4) (by decide)).1
theorem sl_64 (w : Sh h) : al h 64 = 4 := (w.2.2.2.2.1 (64, 4) (by decide)).2
theorem sG_64 (w : Sh h) (h1 : 0 ≤ i) (h2 : i < 4) : gA h 64 i x = x := gA_ok (sA_64 w) h1 (by rw [sl_64 w]; omega) (by omega)
theorem sE_64 (w : Sh h) : ai (sa h 64 f) 64 = f := ai_se (sA_64 w)
theorem sA_65 (w : Sh h) : isA h 65 = true := (w.2.2.2.2.1 (65, 160) (by decide)).1
theorem sl_65 (w : Sh h) : al h 65 = 160 := (w.2.2.2.2.1 (65, 160) (by decide)).2
theorem sG_65 (w : Sh h) (h1 : 0 ≤ i) (h2 : i < 160) : gA h 65 i x = x := gA_ok (sA_65 w) h1 (by rw [sl_65 w]; omega) (by omega)
theorem sE_65 (w : Sh h) : ai (sa h 65 f) 65 = f := ai_se (sA_65 w)
theorem sR_7 (w : Sh h) : isR h 7 0 = true := (w.2.2.2.2.2.1 (7, 0, 6) (by decide)).1
theorem sl_7 (w : Sh h) : al h 7 = 6 := (w.2.2.2.2.2.1 (7, 0, 6) (by decide)).2
theorem sG_7 (w : Sh h) (h1 : 0 ≤ i) (h2 : i < 6) : gR h 7 0 i x = x := gR_ok (sR_7 w) h1 (by rw [sl_7 w]; omega) (by omega)
theorem sE_7 (w : Sh h) : ra (sr h 7 p) 7 = p := ra_se (sR_7 w)
theorem sR_8 (w : Sh h) : isR h 8 1 = true := (w.2.2.2.2.2.1 (8, 1, 60) (by decide)).1
theorem sl_8 (w : Sh h) : al h 8 = 60 := (w.2.2.2.2.2.1 (8, 1, 60) (by decide)).2
theorem sG_8 (w : Sh h) (h1 : 0 ≤ i) (h2 : i < 60) : gR h 8 1 i x = x := gR_ok (sR_8 w) h1 (by rw [sl_8 w]; omega) (by omega)
theorem sE_8 (w : Sh h) : ra (sr h 8 p) 8 = p := ra_se (sR_8 w)
theorem sR_10 (w : Sh h) : isR h 10 2 = true := (w.2.2.2.2.2.1 (10, 2, 0) (by decide)).1
theorem sl_10 (w : Sh h) : al h 10 = 0 := (w.2.2.2.2.2.1 (10, 2, 0) (by decide)).2
theorem sG_10 (w : Sh h) (h1 : 0 ≤ i) (h2 : i < 0) : gR h 10 2 i x = x := gR_ok (sR_10 w) h1 (by rw [sl_10 w]; omega) (by omega)
theorem sE_10 (w : Sh h) : ra (sr h 10 p) 10 = p := ra_se (sR_10 w)
theorem sR_14 (w : Sh h) : isR h 14 0 = true := (w.2.2.2.2.2.1 (14, 0, 6) (by decide)).1
theorem sl_14 (w : Sh h) : al h 14 = 6 := (w.2.2.2.2.2.1 (14, 0, 6) (by decide)).2
theorem sG_14 (w : Sh h) (h1 : 0 ≤ i) (h2 : i < 6) : gR h 14 0 i x = x := gR_ok (sR_14 w) h1 (by rw [sl_14 w]; omega) (by omega)
theorem sE_14 (w : Sh h) : ra (sr h 14 p) 14 = p := ra_se (sR_14 w)
theorem sR_15 (w : Sh h) : isR h 15 1 = true := (w.2.2.2.2.2.1 (15, 1, 60) (by decide)).1
theorem sl_15 (w : Sh h) : al h 15 = 60 := (w.2.2.2.2.2.1 (15, 1, 60) (by decide)).2
theorem sG_15 (w : Sh h) (h1 : 0 ≤ i) (h2 : i < 60) : gR h 15 1 i x = x := gR_ok (sR_15 w) h1 (by rw [sl_15 w]; omega) (by omega)
theorem sE_15 (w : Sh h) : ra (sr h 15 p) 15 = p := ra_se (sR_15 w)
theorem sR_17 (w : Sh h) : isR h 17 2 = true := (w.2.2.2.2.2.1 (17, 2, 0) (by decide)).1
theorem sl_17 (w : Sh h) : al h 17 = 0 := (w.2.2.2.2.2.1 (17, 2, 0) (by decide)).2
theorem sG_17 (w : Sh h) (h1 : 0 ≤ i) (h2 : i < 0) : gR h 17 2 i x = x := gR_ok (sR_17 w) h1 (by rw [sl_17 w]; omega) (by omega)
theorem sE_17 (w : Sh h) : ra (sr h 17 p) 17 = p := ra_se (sR_17 w)
theorem sR_30 (w : Sh h) : isR h 30 3 = true := (w.2.2.2.2.2.1 (30, 3, 4) (by decide)).1
theorem sl_30 (w : Sh h) : al h 30 = 4 := (w.2.2.2.2.2.1 (30, 3, 4) (by decide)).2
theorem sG_30 (w : Sh h) (h1 : 0 ≤ i) (h2 : i < 4) : gR h 30 3 i x = x := gR_ok (sR_30 w) h1 (by rw [sl_30 w]; omega) (by omega)
theorem sE_30 (w : Sh h) : ra (sr h 30 p) 30 = p := ra_se (sR_30 w)
theorem sS_0 (w : Sh h) : ra h 30 0 = some 31 := w.2.2.2.2.2.2.1
theorem sS_1 (w : Sh h) : ra h 30 1 = some 33 := w.2.2.2.2.2.2.2.1
theorem sS_2 (w : Sh h) : ra h 30 2 = some 35 := w.2.2.2.2.2.2.2.2.1
theorem sS_3 (w : Sh h) : ra h 30 3 = some 37 := w.2.2.2.2.2.2.2.2.2
theorem s1 (w : Sh h) : ai h 1 = ka := w.1.2.1
theorem s2 (w : Sh h) : ai h 2 = bo := w.1.2.2
end SHB
