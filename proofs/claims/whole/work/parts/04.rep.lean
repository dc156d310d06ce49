/-! THE ABSTRACT HEAP AGAINST THE MACHINE'S -/
theorem i_wr (x : Int) : (Int32.ofInt x).toInt = wr x := by unfold wr; exact Int32.toInt_ofInt
theorem i_ofwr (x : Int) : Int32.ofInt (wr x) = Int32.ofInt x := by rw [← i_wr, Int32.ofInt_toInt]
theorem i_eq (x y : Int) : Int32.ofInt x = Int32.ofInt y ↔ wr x = wr y := by rw [← Int32.toInt_inj, i_wr, i_wr]
theorem i_lt (x y : Int) : Int32.ofInt x < Int32.ofInt y ↔ wr x < wr y := by rw [Int32.lt_iff_toInt_lt, i_wr, i_wr]
theorem wr_id {x : Int} (h1 : -2147483648 ≤ x) (h2 : x < 2147483648) : wr x = x := by unfold wr; exact Int.bmod_eq_of_le (by omega) (by omega)
theorem wr_le (x : Int) : -2147483648 ≤ wr x ∧ wr x < 2147483648 := by
  have h1 := Int.le_bmod (x := x) (m := 4294967296) (by omega)
  have h2 := Int.bmod_lt (x := x) (m := 4294967296) (by omega)
  unfold wr
  omega
theorem wr_wr (x : Int) : wr (wr x) = wr x := wr_id (wr_le x).1 (wr_le x).2
theorem i_eq0 (x : Int) : Int32.ofInt x = 0 ↔ wr x = 0 := i_eq x 0
theorem i_lt0 (x : Int) : Int32.ofInt x < 0 ↔ wr x < 0 := i_lt x 0
theorem i_gt0 (x : Int) : 0 < Int32.ofInt x ↔ 0 < wr x := i_lt 0 x
theorem i_in (i : Int) (n : Nat) : vp_in (Int32.ofInt i) n ↔ 0 ≤ wr i ∧ wr i < n := by rw [vp_in_iff, i_wr]
theorem i_nat (i : Int) : (Int32.ofInt i).toNatClampNeg = (wr i).toNat := by
  show (Int32.ofInt i).toInt.toNat = _
  rw [i_wr]
theorem i_div (x y : Int) : Int32.ofInt x / Int32.ofInt y = Int32.ofInt ((wr x).tdiv (wr y)) := by
  rw [← Int32.toInt_inj, Int32.toInt_div, i_wr, i_wr, i_wr]; rfl
theorem i_rem (x y : Int) : Int32.ofInt x - Int32.ofInt x / Int32.ofInt y * Int32.ofInt y = Int32.ofInt ((wr x).tmod (wr y)) := by
  rw [i_div, Int.tmod_def, Int32.ofInt_sub, Int32.ofInt_mul, i_ofwr, i_ofwr, Int32.mul_comm]
theorem i_i2l (x : Int) : (Int32.ofInt x).toInt64 = Int64.ofInt (wr x) := by
  rw [← Int64.toInt_inj, Int32.toInt_toInt64, i_wr, Int64.toInt_ofInt]
  have := wr_le x
  rw [Int.bmod_eq_of_le]
  · show -((18446744073709551616 : Nat) / 2 : Int) ≤ _; omega
  · show _ < (((18446744073709551616 : Nat) : Int) + 1) / 2; omega
theorem i_i2b (x : Int) : (Int32.ofInt x).toInt8.toInt32 = Int32.ofInt (Int.bmod x 256) := by
  rw [← Int32.toInt_inj, Int8.toInt_toInt32, Int32.toInt8_ofInt, Int8.toInt_ofInt, i_wr]
  have h1 := Int.le_bmod (x := x) (m := 256) (by omega)
  have h2 := Int.bmod_lt (x := x) (m := 256) (by omega)
  rw [wr_id (by omega) (by omega)]
theorem i_le (x y : Int) : Int32.ofInt x ≤ Int32.ofInt y ↔ wr x ≤ wr y := by rw [Int32.le_iff_toInt_le, i_wr, i_wr]
/-- what the proof is about: base, script, the two static rows, the script's length and ints, classes' numbers and slots, rows' classes -/
abbrev gG : Type := (Nat × Nat × Nat × Nat) × (Nat × (Nat → Int32)) × ((Nat → ClassId) × (Nat → Nat → Nat)) × (ClassId × (Nat → ClassId))
def g_0 (G : gG) : Nat := G.1.1
def g_b (G : gG) : Nat := G.1.2.1
def g_t1 (G : gG) : Nat := G.1.2.2.1
def g_t2 (G : gG) : Nat := G.1.2.2.2
def g_L (G : gG) : Nat := G.2.1.1
def g_xs (G : gG) : Nat → Int32 := G.2.1.2
def g_D (G : gG) : va_G := G.2.2.1
def g_cI (G : gG) : ClassId := G.2.2.2.1
def g_cR (G : gG) : Nat → ClassId := G.2.2.2.2
def g_A (G : gG) : Nat → Prop := fun q => g_0 G ≤ q
def gAd (G : gG) (a : Nat) : Nat := match a with
  | 0 => g_b G
  | 1 => g_t1 G
  | 2 => g_t2 G
  | a + 3 => g_0 G + a
theorem gAd3 (G : gG) {a : Nat} (h : 3 ≤ a) : gAd G a = g_0 G + (a - 3) := by
  obtain ⟨k, rfl⟩ := Nat.exists_eq_add_of_le h
  rw [show 3 + k = k + 3 by omega]
  rfl
def cQ (G : gG) (r : Option Nat) : Value := va_rf (r.map (gAd G))
def cV (G : gG) (v : aV) : Value := match v with
  | .inl x => .int (Int32.ofInt x)
  | .inr (.inl r) => cQ G r
  | .inr (.inr (.inl x)) => .long (Int64.ofInt x)
  | .inr (.inr (.inr _)) => .null
theorem cV_I (G : gG) (x : Int) : cV G (aI x) = .int (Int32.ofInt x) := rfl
theorem cV_Q (G : gG) (r : Option Nat) : cV G (aQ r) = cQ G r := rfl
theorem cV_R (G : gG) (a : Nat) : cV G (aQ (some a)) = .ref (gAd G a) := rfl
theorem cV_N (G : gG) : cV G (aQ none) = .null := rfl
theorem cV_L (G : gG) (x : Int) : cV G (aL x) = .long (Int64.ofInt x) := rfl
theorem cV_cat (G : gG) {v : aV} (h : aNl v = true) : (cV G v).category = 1 := by
  rcases v with x | r | x | x
  · rfl
  · cases r <;> rfl
  · cases h
  · rfl
def cC (G : gG) (c : aC) : va_E := match c with
  | .inl o => .inr (o.1, o.2.map (cV G))
  | .inr (.inl q) => .inl (g_cI G, (q.1, .inl (fun j => Int32.ofInt (q.2 (j : Int)))))
  | .inr (.inr q) => .inl (g_cR G q.1, (q.2.1, .inr (.inr (.inr (.inr (fun j => (q.2.2 (j : Int)).map (gAd G)))))))
/-- all cells of ours -/
def wl (G : gG) (h : aH) : va_W := (List.range (aSz h - 3)).map fun i => (g_0 G + i, cC G (aCo h (i + 3)))
theorem wl_get (G : gG) {h : aH} {a : Nat} (h3 : 3 ≤ a) (hl : a < aSz h) : (wl G h)[a - 3]? = some (gAd G a, cC G (aCo h a)) := by
  unfold wl
  rw [List.getElem?_map, List.getElem?_range (by omega), Option.map_some, gAd3 G h3, show a - 3 + 3 = a by omega]
theorem aCo_set (h : aH) (a b : Nat) (c : aC) : aCo (aSet h a c) b = if b = a then c else aCo h b := rfl
theorem aSz_set (h : aH) (a : Nat) (c : aC) : aSz (aSet h a c) = aSz h := rfl
theorem aSl_set (h : aH) (a : Nat) (c : aC) : aSl (aSet h a c) = aSl h := rfl
theorem aCo_new (h : aH) (b n : Nat) (c : aC) : aCo (aNew h c n) b = if b = aSz h then c else aCo h b := rfl
theorem aSz_new (h : aH) (c : aC) (n : Nat) : aSz (aNew h c n) = aSz h + 1 := rfl
theorem aSl_new (h : aH) (c : aC) (n : Nat) : aSl (aNew h c n) = aSl h + n := rfl
theorem wl_set (G : gG) {h : aH} {a : Nat} (h3 : 3 ≤ a) (hl : a < aSz h) (c : aC) : (wl G h).set (a - 3) (gAd G a, cC G c) = wl G (aSet h a c) := by
  apply List.ext_getElem?
  intro i
  rw [List.getElem?_set]
  unfold wl
  rw [List.length_map, List.length_range, aSz_set]
  by_cases hi : a - 3 = i
  · subst hi
    rw [if_pos rfl, if_pos (by omega), List.getElem?_map, List.getElem?_range (by omega), Option.map_some, show a - 3 + 3 = a by omega, aCo_set, if_pos rfl, gAd3 G h3]
  · rw [if_neg hi, List.getElem?_map, List.getElem?_map]
    by_cases hk : i < aSz h - 3
    · rw [List.getElem?_range hk, Option.map_some, Option.map_some, aCo_set, if_neg (by omega)]
    · rw [List.getElem?_eq_none (by rw [List.length_range]; omega)]
      rfl
theorem wl_new (G : gG) {h : aH} (h3 : 3 ≤ aSz h) (c : aC) (n : Nat) : wl G h ++ [(gAd G (aSz h), cC G c)] = wl G (aNew h c n) := by
  unfold wl
  rw [aSz_new, show aSz h + 1 - 3 = (aSz h - 3) + 1 by omega, List.range_succ, List.map_append]
  congr 1
  · apply List.map_congr_left
    intro i hi
    rw [List.mem_range] at hi
    rw [aCo_new, if_neg (by omega)]
  · simp only [List.map_cons, List.map_nil]
    rw [aCo_new, show aSz h - 3 + 3 = aSz h by omega, if_pos rfl, gAd3 G h3]
theorem wl_D (G : gG) (h : aH) : va_D (g_A G) (wl G h) := by
  have key : ∀ (i : Nat) (p : Nat × va_E), (wl G h)[i]? = some p → p.1 = g_0 G + i := by
    intro i p hp
    unfold wl at hp
    rw [List.getElem?_map] at hp
    by_cases hk : i < aSz h - 3
    · rw [List.getElem?_range hk, Option.map_some] at hp
      cases hp
      rfl
    · rw [List.getElem?_eq_none (by rw [List.length_range]; omega)] at hp
      cases hp
  refine ⟨fun i j p q hp hq e => ?_, fun k q hq => ?_⟩
  · have h1 := key i p hp
    have h2 := key j q hq
    omega
  · have h1 := key k q hq
    show g_0 G ≤ q.1
    omega
def ka (j : Int) : Int := if j = 0 then -1 else if j = 5 then 1 else 0
def bo (j : Int) : Int := ([10, 11, 12, 13, 20, 0, 0, 21, 0, 0, 30, 0, 0, 40, 0, 0, 0, 0, 0, 50, 61, 60, 0, 0] : List Int).getD j.toNat 0
def Rep (G : gG) (h : aH) (H : Heap) : Prop := 3 ≤ aSz h ∧ H.size = g_0 G + (aSz h - 3) ∧ va_P (g_D G) vwCl (wl G h) H ∧ aCo h 0 = .inr (.inl (g_L G, fun j => (g_xs G j.toNat).toInt)) ∧ aCo h 1 = .inr (.inl (6, ka)) ∧ aCo h 2 = .inr (.inl (24, bo))
def tysG (G : gG) : List (ClassId × FieldType) := [(g_cI G, .int), (g_cR G 0, .object "KnowHouse$Page"), (g_cR G 1, .object "KnowHouse$Change"), (g_cR G 2, .object "KnowHouse$Line"), (g_cR G 3, .object "KnowHouse$Sheet")]
def nestW : List Cond := [.methodLinkNest "KnowHouse" 21 yX2_init "KnowHouse", .methodLinkNest "KnowHouse" 28 yX8_init "KnowHouse", .methodLinkNest "KnowHouse" 35 yX5_init "KnowHouse", .methodLinkNest "KnowHouse" 42 yX0_init "KnowHouse", .methodLinkNest "KnowHouse" 53 yX6_init "KnowHouse", .methodLinkNest "KnowHouse$Keeping" 43 yX9_isUnder "KnowHouse", .methodLinkNest "KnowHouse$Sheet" 28 yX9_isText "KnowHouse", .fieldLinkNest "KnowHouse$Acts" 32 "KnowHouse" "KIND_ABOVE" "[I" "KnowHouse"]
def overC : List String := ["KnowHouse$Page", "KnowHouse$Change", "KnowHouse$Line", "KnowHouse$Sheet"]
/-- what holds of a state beside the words: classes, the rows that lie below, nest mates -/
def CX (G : gG) (U : State) : Prop :=
  va_K (g_D G) vwCl (tysG G) U ∧
  (va_X (g_b G) (g_L G) (g_xs G) U U.heap ∧ va_X (g_t1 G) 6 (fun j => Int32.ofInt (ka (j : Int))) U U.heap ∧ va_X (g_t2 G) 24 (fun j => Int32.ofInt (bo (j : Int))) U U.heap) ∧
  (va_Z "KnowHouse" "KIND_ABOVE" "[I" (.ref (g_t1 G)) (g_A G) U U.heap ∧ va_Z "KnowHouse$Acts" "BODIES" "[I" (.ref (g_t2 G)) (g_A G) U U.heap) ∧
  ((∀ w ∈ nestW, va_Nw w U) ∧ ∀ C ∈ overC, va_AO C U) ∧
  (g_b G < g_0 G ∧ g_t1 G < g_0 G ∧ g_t2 G < g_0 G ∧ g_0 G ≤ U.heap.size)
theorem CX.same {G : gG} {u U : State} (hv : u.vm = U.vm) (hh : U.heap = u.heap) (h : CX G u) : CX G U := by
  obtain ⟨h1, ⟨h2, h3, h4⟩, ⟨h5, h6⟩, ⟨h7, h8⟩, h9⟩ := h
  have ha : u.vm.Alike U.vm := hv ▸ Vm.Alike.refl _
  refine ⟨h1.moved ha, ⟨?_, ?_, ?_⟩, ⟨?_, ?_⟩, ⟨fun w hw => ?_, fun C hC => (h8 C hC).moved ha⟩, ?_⟩
  · rw [hh]; exact h2.moved ha
  · rw [hh]; exact h3.moved ha
  · rw [hh]; exact h4.moved ha
  · rw [hh]; exact h5.moved ha
  · rw [hh]; exact h6.moved ha
  · have h := h7 w hw
    have ht : w.onTables = true := by
      simp only [nestW, List.mem_cons, List.not_mem_nil, or_false] at hw
      rcases hw with rfl | rfl | rfl | rfl | rfl | rfl | rfl | rfl <;> rfl
    exact va_Nw.same ht hv h
  · rw [hh]; exact h9
theorem CX.warm {G : gG} {s U : State} {H : Heap} {locs : List Loc} (hW : s.WarmedH U.vm) (hh : U.heap = H) (hS : va_S (g_A G) s.heap H locs) (h : CX G s) : CX G U := by
  obtain ⟨h1, ⟨h2, h3, h4⟩, ⟨h5, h6⟩, ⟨h7, h8⟩, ⟨h9, h10, h11, h12⟩⟩ := h
  have ha : s.vm.Alike U.vm := hW.alike
  subst hh
  have hk : ∀ q : Nat, q < g_0 G → U.heap[q]? = s.heap[q]? := fun q hq => hS.2.1 q (by omega) (Nat.not_le.mpr hq)
  have hk2 : ∀ q : Nat, q < s.heap.size → ¬ g_A G q → U.heap[q]? = s.heap[q]? := hS.2.1
  refine ⟨h1.moved ha, ⟨(h2.kept (hk _ h9)).moved ha, (h3.kept (hk _ h10)).moved ha, (h4.kept (hk _ h11)).moved ha⟩, ⟨(h5.kept hk2).moved ha, (h6.kept hk2).moved ha⟩, ⟨fun w hw => ?_, fun C hC => (h8 C hC).moved ha⟩, h9, h10, h11, Nat.le_trans h12 hS.1⟩
  have h := h7 w hw
  simp only [nestW, List.mem_cons, List.not_mem_nil, or_false] at hw
  rcases hw with rfl | rfl | rfl | rfl | rfl | rfl | rfl | rfl
  · exact va_Nw.warmM hW h
  · exact va_Nw.warmM hW h
  · exact va_Nw.warmM hW h
  · exact va_Nw.warmM hW h
  · exact va_Nw.warmM hW h
  · exact va_Nw.warmM hW h
  · exact va_Nw.warmM hW h
  · exact va_Nw.warmF hW h
/-- the locals -/
def Lo (G : gG) (ls : List aV) (A : Array Slot) : Prop := A.size = ls.length ∧ lv_wf A ∧ ∀ (i : Nat) (v : aV), ls[i]? = some v → v ≠ aU → A[i]? = some (.val (cV G v))
def lst (G : gG) (ls : List aV) : List (Nat × Value) := (List.range ls.length).filterMap fun j => match ls[j]? with
  | some v => if v = aU then none else some (j, cV G v)
  | none => none
theorem lst_mem {G : gG} {ls : List aV} {j : Nat} {v : aV} (h : ls[j]? = some v) (hv : v ≠ aU) : (j, cV G v) ∈ lst G ls := by
  refine List.mem_filterMap.mpr ⟨j, List.mem_range.mpr (List.getElem?_eq_some_iff.mp h).1, ?_⟩
  simp only [h]
  rw [if_neg hv]
theorem Lo.has {G : gG} {ls : List aV} {A : Array Slot} (h : Lo G ls A) : lv_has A ls.length (lst G ls) := by
  refine ⟨h.1, h.2.1, fun q hq => ?_⟩
  obtain ⟨j, -, hj⟩ := List.mem_filterMap.mp hq
  cases e : ls[j]? with
  | none => simp [e] at hj
  | some v =>
    simp only [e] at hj
    by_cases hv : v = aU
    · rw [if_pos hv] at hj; cases hj
    · rw [if_neg hv] at hj
      cases hj
      exact h.2.2 j v e hv
theorem Lo.store {G : gG} {ls : List aV} {A' : Array Slot} {k : Nat} {v : aV} (hok : aOk ls k = true) (hk : k < ls.length) (hv : v ≠ aU)
    (h : lv_has A' ls.length ((k, cV G v) :: (lst G ls).filter (fun q => !(q.1 == k) && !(q.1 + 1 == k && q.2.category == 2)))) : Lo G (ls.set k v) A' := by
  obtain ⟨h1, h2, h3⟩ := h
  refine ⟨by rw [List.length_set]; exact h1, h2, fun i w hi hw => ?_⟩
  rw [List.getElem?_set] at hi
  by_cases e : k = i
  · subst e
    rw [if_pos rfl, if_pos hk] at hi
    cases hi
    exact h3 (k, cV G v) List.mem_cons_self
  · rw [if_neg e] at hi
    refine h3 (i, cV G w) (List.mem_cons_of_mem _ (List.mem_filter.mpr ⟨lst_mem hi hw, ?_⟩))
    have e1 : (i == k) = false := by simpa using fun q => e q.symm
    have e2 : (i + 1 == k && (cV G w).category == 2) = false := by
      by_cases e3 : i + 1 = k
      · subst e3
        simp only [aOk, hi] at hok
        rw [cV_cat G hok]
        simp
      · have : (i + 1 == k) = false := by simpa using e3
        rw [this]; rfl
    simp only [e1, e2]
    rfl
