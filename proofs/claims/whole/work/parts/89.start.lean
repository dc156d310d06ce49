/-! THE LAW'S START: printed by wip/whole/gen/gen89.py -/
theorem st_X {args : Array Value} {s : State} {tm : Term} {N : Nat} {f : Nat → Int32} (hN : N < 2147483648) (harr : (Cond.arrayOf tm .int).before args s = true) (hlen : (Term.length tm).eval args s none [] s = some (.int (Int32.ofNat N))) (hel : ∀ j : Nat, j < N → (Term.elem tm (.int (Int32.ofNat j))).eval args s none [] s = some (.int (f j))) : ∃ t : Nat, tm.eval args s none [] s = some (.ref t) ∧ t < s.heap.size ∧ va_X t N f s s.heap := by
  obtain ⟨t, cell, ht, hat, hv⟩ := Term.length_spec hlen
  have hsz : cell.slots.size < 2147483648 := by
    have h := hlen
    simp only [Term.eval, ht, hat, Option.bind_eq_bind, Option.bind_some] at h
    by_cases hn : cell.slots.size < 2147483648
    · exact hn
    · rw [if_neg hn] at h; cases h
  have hs : cell.slots.size = N := by
    have e := congrArg Int32.toInt (Value.int.inj hv)
    have e1 : (Int32.ofNat N).toInt = N := Int32.toInt_ofNat_small (show N < 2 ^ 31 from hN)
    have e2 : cell.slots.size.toInt32.toInt = cell.slots.size := Int32.toInt_ofNat_small (show cell.slots.size < 2 ^ 31 from hsz)
    rw [e1, e2] at e
    exact (Int.ofNat.inj e).symm
  obtain ⟨hcell, hkn, -, -⟩ := State.arrayAt?_spec hat
  obtain ⟨hof, -⟩ := Cond.arrayOf_spec harr ht hcell
  refine ⟨t, ht, (Array.getElem?_eq_some_iff.mp hcell).1, cell, hcell, hof, hkn, hs, fun j hj => ?_⟩
  obtain ⟨a, i, cell2, h1, h2, h3, h4, h5⟩ := Term.elem_spec (hel j hj)
  cases ht.symm.trans h1
  cases hat.symm.trans h3
  have hi : i = Int32.ofNat j := by
    have e : (Term.int (Int32.ofNat j)).eval args s none [] s = some (.int (Int32.ofNat j)) := rfl
    cases h2.symm.trans e
    rfl
  have hc : i.toNatClampNeg = j := by rw [hi]; exact Int32.toNatClampNeg_ofNat_of_lt (Nat.lt_trans hj hN)
  rw [hc] at h5
  exact h5
theorem aOf {s : State} {args : Array Value} {C : String} (h : (Cond.arrayOver (.object C)).before args s = true) : ∃ cA : ClassId, ArrOfT s cA (.object C) ∧ va_RA s cA (.object C) := by
  obtain ⟨comp, c, k, h1, -, h3, h4, h5⟩ := Cond.arrayOver_spec h
  exact ⟨c, fun N z => ⟨(fun k h => by cases h), k, h3, comp, h4⟩, k, comp, h3, h4, h1, h5⟩
theorem aOfI {s : State} {args : Array Value} (h : (Cond.arrayClass .int).before args s = true) : ∃ cA : ClassId, ArrOfT s cA .int ∧ va_RA s cA .int := by
  obtain ⟨c, k, comp, h1, h2, h3⟩ := Cond.arrayClass_spec h
  exact ⟨c, fun N z => ⟨(fun k h => by cases h), k, h2, comp, h3⟩, h1⟩
theorem st_KA {b : Addr} {s : State} (hs : ∀ c ∈ flatC (Jvm.Cond.and given_1 narrow_1), c.before #[Value.ref b] s = true) : ∃ t : Nat, (Term.static "KnowHouse" "KIND_ABOVE" "[I").eval #[Value.ref b] s none [] s = some (.ref t) ∧ t < s.heap.size ∧ va_X t 6 (fun j => Int32.ofInt (ka (j : Int))) s s.heap := by
  refine st_X (by decide) (hs (.arrayOf (.static "KnowHouse" "KIND_ABOVE" "[I") .int) (by decide +kernel)) (va_eqt (hs (.eq (.length (.static "KnowHouse" "KIND_ABOVE" "[I")) (.int 6)) (by decide +kernel))) fun j hj => ?_
  rcases (show j = 0 ∨ j = 1 ∨ j = 2 ∨ j = 3 ∨ j = 4 ∨ j = 5 by omega) with rfl | rfl | rfl | rfl | rfl | rfl
  · rw [show Int32.ofInt (ka ((0 : Nat) : Int)) = (-1) from by decide +kernel]
    exact va_eqt (hs (.eq (.elem (.static "KnowHouse" "KIND_ABOVE" "[I") (.int 0)) (.int (-1))) (by decide +kernel))
  · rw [show Int32.ofInt (ka ((1 : Nat) : Int)) = 0 from by decide +kernel]
    exact va_eqt (hs (.eq (.elem (.static "KnowHouse" "KIND_ABOVE" "[I") (.int 1)) (.int 0)) (by decide +kernel))
  · rw [show Int32.ofInt (ka ((2 : Nat) : Int)) = 0 from by decide +kernel]
    exact va_eqt (hs (.eq (.elem (.static "KnowHouse" "KIND_ABOVE" "[I") (.int 2)) (.int 0)) (by decide +kernel))
  · rw [show Int32.ofInt (ka ((3 : Nat) : Int)) = 0 from by decide +kernel]
    exact va_eqt (hs (.eq (.elem (.static "KnowHouse" "KIND_ABOVE" "[I") (.int 3)) (.int 0)) (by decide +kernel))
  · rw [show Int32.ofInt (ka ((4 : Nat) : Int)) = 0 from by decide +kernel]
    exact va_eqt (hs (.eq (.elem (.static "KnowHouse" "KIND_ABOVE" "[I") (.int 4)) (.int 0)) (by decide +kernel))
  · rw [show Int32.ofInt (ka ((5 : Nat) : Int)) = 1 from by decide +kernel]
    exact va_eqt (hs (.eq (.elem (.static "KnowHouse" "KIND_ABOVE" "[I") (.int 5)) (.int 1)) (by decide +kernel))
theorem st_BO {b : Addr} {s : State} (hs : ∀ c ∈ flatC (Jvm.Cond.and given_1 narrow_1), c.before #[Value.ref b] s = true) : ∃ t : Nat, (Term.static "KnowHouse$Acts" "BODIES" "[I").eval #[Value.ref b] s none [] s = some (.ref t) ∧ t < s.heap.size ∧ va_X t 24 (fun j => Int32.ofInt (bo (j : Int))) s s.heap := by
  refine st_X (by decide) (hs (.arrayOf (.static "KnowHouse$Acts" "BODIES" "[I") .int) (by decide +kernel)) (va_eqt (hs (.eq (.length (.static "KnowHouse$Acts" "BODIES" "[I")) (.int 24)) (by decide +kernel))) fun j hj => ?_
  rcases (show j = 0 ∨ j = 1 ∨ j = 2 ∨ j = 3 ∨ j = 4 ∨ j = 5 ∨ j = 6 ∨ j = 7 ∨ j = 8 ∨ j = 9 ∨ j = 10 ∨ j = 11 ∨ j = 12 ∨ j = 13 ∨ j = 14 ∨ j = 15 ∨ j = 16 ∨ j = 17 ∨ j = 18 ∨ j = 19 ∨ j = 20 ∨ j = 21 ∨ j = 22 ∨ j = 23 by omega) with rfl | rfl | rfl | rfl | rfl | rfl | rfl | rfl | rfl | rfl | rfl | rfl | rfl | rfl | rfl | rfl | rfl | rfl | rfl | rfl | rfl | rfl | rfl | rfl
  · rw [show Int32.ofInt (bo ((0 : Nat) : Int)) = 10 from by decide +kernel]
    exact va_eqt (hs (.eq (.elem (.static "KnowHouse$Acts" "BODIES" "[I") (.int 0)) (.int 10)) (by decide +kernel))
  · rw [show Int32.ofInt (bo ((1 : Nat) : Int)) = 11 from by decide +kernel]
    exact va_eqt (hs (.eq (.elem (.static "KnowHouse$Acts" "BODIES" "[I") (.int 1)) (.int 11)) (by decide +kernel))
  · rw [show Int32.ofInt (bo ((2 : Nat) : Int)) = 12 from by decide +kernel]
    exact va_eqt (hs (.eq (.elem (.static "KnowHouse$Acts" "BODIES" "[I") (.int 2)) (.int 12)) (by decide +kernel))
  · rw [show Int32.ofInt (bo ((3 : Nat) : Int)) = 13 from by decide +kernel]
    exact va_eqt (hs (.eq (.elem (.static "KnowHouse$Acts" "BODIES" "[I") (.int 3)) (.int 13)) (by decide +kernel))
  · rw [show Int32.ofInt (bo ((4 : Nat) : Int)) = 20 from by decide +kernel]
    exact va_eqt (hs (.eq (.elem (.static "KnowHouse$Acts" "BODIES" "[I") (.int 4)) (.int 20)) (by decide +kernel))
  · rw [show Int32.ofInt (bo ((5 : Nat) : Int)) = 0 from by decide +kernel]
    exact va_eqt (hs (.eq (.elem (.static "KnowHouse$Acts" "BODIES" "[I") (.int 5)) (.int 0)) (by decide +kernel))
  · rw [show Int32.ofInt (bo ((6 : Nat) : Int)) = 0 from by decide +kernel]
    exact va_eqt (hs (.eq (.elem (.static "KnowHouse$Acts" "BODIES" "[I") (.int 6)) (.int 0)) (by decide +kernel))
  · rw [show Int32.ofInt (bo ((7 : Nat) : Int)) = 21 from by decide +kernel]
    exact va_eqt (hs (.eq (.elem (.static "KnowHouse$Acts" "BODIES" "[I") (.int 7)) (.int 21)) (by decide +kernel))
  · rw [show Int32.ofInt (bo ((8 : Nat) : Int)) = 0 from by decide +kernel]
    exact va_eqt (hs (.eq (.elem (.static "KnowHouse$Acts" "BODIES" "[I") (.int 8)) (.int 0)) (by decide +kernel))
  · rw [show Int32.ofInt (bo ((9 : Nat) : Int)) = 0 from by decide +kernel]
    exact va_eqt (hs (.eq (.elem (.static "KnowHouse$Acts" "BODIES" "[I") (.int 9)) (.int 0)) (by decide +kernel))
  · rw [show Int32.ofInt (bo ((10 : Nat) : Int)) = 30 from by decide +kernel]
    exact va_eqt (hs (.eq (.elem (.static "KnowHouse$Acts" "BODIES" "[I") (.int 10)) (.int 30)) (by decide +kernel))
  · rw [show Int32.ofInt (bo ((11 : Nat) : Int)) = 0 from by decide +kernel]
    exact va_eqt (hs (.eq (.elem (.static "KnowHouse$Acts" "BODIES" "[I") (.int 11)) (.int 0)) (by decide +kernel))
  · rw [show Int32.ofInt (bo ((12 : Nat) : Int)) = 0 from by decide +kernel]
    exact va_eqt (hs (.eq (.elem (.static "KnowHouse$Acts" "BODIES" "[I") (.int 12)) (.int 0)) (by decide +kernel))
  · rw [show Int32.ofInt (bo ((13 : Nat) : Int)) = 40 from by decide +kernel]
    exact va_eqt (hs (.eq (.elem (.static "KnowHouse$Acts" "BODIES" "[I") (.int 13)) (.int 40)) (by decide +kernel))
  · rw [show Int32.ofInt (bo ((14 : Nat) : Int)) = 0 from by decide +kernel]
    exact va_eqt (hs (.eq (.elem (.static "KnowHouse$Acts" "BODIES" "[I") (.int 14)) (.int 0)) (by decide +kernel))
  · rw [show Int32.ofInt (bo ((15 : Nat) : Int)) = 0 from by decide +kernel]
    exact va_eqt (hs (.eq (.elem (.static "KnowHouse$Acts" "BODIES" "[I") (.int 15)) (.int 0)) (by decide +kernel))
  · rw [show Int32.ofInt (bo ((16 : Nat) : Int)) = 0 from by decide +kernel]
    exact va_eqt (hs (.eq (.elem (.static "KnowHouse$Acts" "BODIES" "[I") (.int 16)) (.int 0)) (by decide +kernel))
  · rw [show Int32.ofInt (bo ((17 : Nat) : Int)) = 0 from by decide +kernel]
    exact va_eqt (hs (.eq (.elem (.static "KnowHouse$Acts" "BODIES" "[I") (.int 17)) (.int 0)) (by decide +kernel))
  · rw [show Int32.ofInt (bo ((18 : Nat) : Int)) = 0 from by decide +kernel]
    exact va_eqt (hs (.eq (.elem (.static "KnowHouse$Acts" "BODIES" "[I") (.int 18)) (.int 0)) (by decide +kernel))
  · rw [show Int32.ofInt (bo ((19 : Nat) : Int)) = 50 from by decide +kernel]
    exact va_eqt (hs (.eq (.elem (.static "KnowHouse$Acts" "BODIES" "[I") (.int 19)) (.int 50)) (by decide +kernel))
  · rw [show Int32.ofInt (bo ((20 : Nat) : Int)) = 61 from by decide +kernel]
    exact va_eqt (hs (.eq (.elem (.static "KnowHouse$Acts" "BODIES" "[I") (.int 20)) (.int 61)) (by decide +kernel))
  · rw [show Int32.ofInt (bo ((21 : Nat) : Int)) = 60 from by decide +kernel]
    exact va_eqt (hs (.eq (.elem (.static "KnowHouse$Acts" "BODIES" "[I") (.int 21)) (.int 60)) (by decide +kernel))
  · rw [show Int32.ofInt (bo ((22 : Nat) : Int)) = 0 from by decide +kernel]
    exact va_eqt (hs (.eq (.elem (.static "KnowHouse$Acts" "BODIES" "[I") (.int 22)) (.int 0)) (by decide +kernel))
  · rw [show Int32.ofInt (bo ((23 : Nat) : Int)) = 0 from by decide +kernel]
    exact va_eqt (hs (.eq (.elem (.static "KnowHouse$Acts" "BODIES" "[I") (.int 23)) (.int 0)) (by decide +kernel))
/-- the heap ahead of all -/
def h00 (L : Nat) (xs : Nat → Int32) : aH := (3, 0, fun a => if a = 0 then .inr (.inl (L, fun j => (xs j.toNat).toInt)) else if a = 1 then .inr (.inl (6, ka)) else if a = 2 then .inr (.inl (24, bo)) else .inl (0, []))
theorem inr_i32 (z : Int32) : inr z.toInt := ⟨Int32.le_toInt z, Int32.toInt_lt z⟩
theorem inr_ka (j : Int) : inr (ka j) := by
  unfold ka
  split
  · exact ⟨by decide, by decide⟩
  · split
    · exact ⟨by decide, by decide⟩
    · exact inr0
theorem inr_bo (j : Int) : inr (bo j) := by
  unfold bo
  generalize j.toNat = k
  have : ∀ x ∈ ([10, 11, 12, 13, 20, 0, 0, 21, 0, 0, 30, 0, 0, 40, 0, 0, 0, 0, 0, 50, 61, 60, 0, 0] : List Int), -2147483648 ≤ x ∧ x < 2147483648 := by decide
  rw [List.getD_eq_getElem?_getD]
  cases e : ([10, 11, 12, 13, 20, 0, 0, 21, 0, 0, 30, 0, 0, 40, 0, 0, 0, 0, 0, 50, 61, 60, 0, 0] : List Int)[k]? with
  | none => exact inr0
  | some x => exact this x (List.mem_of_getElem? e)
theorem h00_g {L : Nat} {xs : Nat → Int32} : Rg (h00 L xs) := by
  refine ⟨fun a j => ?_, fun a k => ?_⟩
  · unfold ai aCo h00
    dsimp only
    by_cases e0 : a = 0
    · rw [if_pos e0]; exact inr_i32 _
    · rw [if_neg e0]
      by_cases e1 : a = 1
      · rw [if_pos e1]; exact inr_ka j
      · rw [if_neg e1]
        by_cases e2 : a = 2
        · rw [if_pos e2]; exact inr_bo j
        · rw [if_neg e2]; exact inr0
  · unfold fi gf aCo h00
    dsimp only
    by_cases e0 : a = 0
    · rw [if_pos e0]; exact inr0
    · rw [if_neg e0]
      by_cases e1 : a = 1
      · rw [if_pos e1]; exact inr0
      · rw [if_neg e1]
        by_cases e2 : a = 2
        · rw [if_pos e2]; exact inr0
        · rw [if_neg e2]
          exact inr0
theorem classes_ok {b : Addr} {s : State} (hts : ∀ w ∈ lw_tbl, w.before #[Value.ref b] s = true) : ∃ (dC : Nat → ClassId) (dI : Nat → Nat → Nat), ∀ (k : Nat) (q : vw_C), vwCl[k]? = some q → u_Kn s q.1 q.2.1 q.2.2 (dC k) (dI k) := by
  obtain ⟨c0, i0, h0⟩ := u_known (C := RX0) (T := TX0) (N := 2) (n := 2) hts (fun w hw => (ow_0 w hw).1) (hts (.instantiable RX0 2) (List.mem_of_getElem? (i := 226) (by decide +kernel)))
  obtain ⟨c1, i1, h1⟩ := u_known (C := RX1) (T := TX1) (N := 8) (n := 8) hts (fun w hw => (ow_1 w hw).1) (hts (.instantiable RX1 8) (List.mem_of_getElem? (i := 348) (by decide +kernel)))
  obtain ⟨c2, i2, h2⟩ := u_known (C := RX2) (T := TX2) (N := 7) (n := 7) hts (fun w hw => (ow_2 w hw).1) (hts (.instantiable RX2 7) (List.mem_of_getElem? (i := 161) (by decide +kernel)))
  obtain ⟨c3, i3, h3⟩ := u_known (C := RX3) (T := TX3) (N := 3) (n := 3) hts (fun w hw => (ow_3 w hw).1) (hts (.instantiable RX3 3) (List.mem_of_getElem? (i := 446) (by decide +kernel)))
  obtain ⟨c4, i4, h4⟩ := u_known (C := RX4) (T := TX4) (N := 1) (n := 1) hts (fun w hw => (ow_4 w hw).1) (hts (.instantiable RX4 1) (List.mem_of_getElem? (i := 99) (by decide +kernel)))
  obtain ⟨c5, i5, h5⟩ := u_known (C := RX5) (T := TX5) (N := 6) (n := 6) hts (fun w hw => (ow_5 w hw).1) (hts (.instantiable RX5 6) (List.mem_of_getElem? (i := 199) (by decide +kernel)))
  obtain ⟨c6, i6, h6⟩ := u_known (C := RX6) (T := TX6) (N := 3) (n := 3) hts (fun w hw => (ow_6 w hw).1) (hts (.instantiable RX6 3) (List.mem_of_getElem? (i := 242) (by decide +kernel)))
  obtain ⟨c7, i7, h7⟩ := u_known (C := RX7) (T := TX7) (N := 10) (n := 10) hts (fun w hw => (ow_7 w hw).1) (hts (.instantiable RX7 10) (List.mem_of_getElem? (i := 90) (by decide +kernel)))
  obtain ⟨c8, i8, h8⟩ := u_known (C := RX8) (T := TX8) (N := 1) (n := 1) hts (fun w hw => (ow_8 w hw).1) (hts (.instantiable RX8 1) (List.mem_of_getElem? (i := 189) (by decide +kernel)))
  obtain ⟨c9, i9, h9⟩ := u_known (C := RX9) (T := TX9) (N := 10) (n := 10) hts (fun w hw => (ow_9 w hw).1) (hts (.instantiable RX9 10) (List.mem_of_getElem? (i := 82) (by decide +kernel)))
  obtain ⟨c10, i10, h10⟩ := u_known (C := RX10) (T := TX10) (N := 32) (n := 32) hts (fun w hw => (ow_10 w hw).1) (hts (.instantiable RX10 32) (List.mem_of_getElem? (i := 810) (by decide +kernel)))
  refine ⟨fun k => [c0, c1, c2, c3, c4, c5, c6, c7, c8, c9, c10].getD k c0, fun k => [i0, i1, i2, i3, i4, i5, i6, i7, i8, i9, i10].getD k i0, fun k q hq => ?_⟩
  match k, hq with
  | 0, hq => cases hq; exact h0
  | 1, hq => cases hq; exact h1
  | 2, hq => cases hq; exact h2
  | 3, hq => cases hq; exact h3
  | 4, hq => cases hq; exact h4
  | 5, hq => cases hq; exact h5
  | 6, hq => cases hq; exact h6
  | 7, hq => cases hq; exact h7
  | 8, hq => cases hq; exact h8
  | 9, hq => cases hq; exact h9
  | 10, hq => cases hq; exact h10
  | k + 11, hq => simp [vwCl] at hq
theorem start_CX {b L : Nat} {xs : Nat → Int32} {s : State} (hts : ∀ w ∈ lw_tbl, w.before #[Value.ref b] s = true) (hgv : (Jvm.Cond.and given_1 narrow_1).before #[Value.ref b] s = true) (hX : va_X b L xs s s.heap) (hbl : b < s.heap.size) : ∃ G : gG, g_0 G = s.heap.size ∧ g_b G = b ∧ g_L G = L ∧ g_xs G = xs ∧ CX G s := by
  have hs := flat_of_before _ hgv
  obtain ⟨t1, e1, l1, X1⟩ := st_KA hs
  obtain ⟨t2, e2, l2, X2⟩ := st_BO hs
  obtain ⟨dC, dI, hK⟩ := classes_ok hts
  obtain ⟨cI, kI1, kI2⟩ := aOfI (hts (.arrayClass .int) (List.mem_of_getElem? (i := 112) (by decide +kernel)))
  obtain ⟨r0, p0, q0⟩ := aOf (hts (.arrayOver (.object "KnowHouse$Page")) (List.mem_of_getElem? (i := 96) (by decide +kernel)))
  obtain ⟨r1, p1, q1⟩ := aOf (hts (.arrayOver (.object "KnowHouse$Change")) (List.mem_of_getElem? (i := 98) (by decide +kernel)))
  obtain ⟨r2, p2, q2⟩ := aOf (hts (.arrayOver (.object "KnowHouse$Line")) (List.mem_of_getElem? (i := 101) (by decide +kernel)))
  obtain ⟨r3, p3, q3⟩ := aOf (hts (.arrayOver (.object "KnowHouse$Sheet")) (List.mem_of_getElem? (i := 241) (by decide +kernel)))
  have hA : ∀ a : Nat, a < s.heap.size → ¬ (fun q : Nat => s.heap.size ≤ q) a := fun a h => Nat.not_le.mpr h
  refine ⟨((s.heap.size, b, t1, t2), (L, xs), (dC, dI), (cI, fun k => [r0, r1, r2, r3].getD k r0)), rfl, rfl, rfl, rfl, ⟨hK, fun k q hq => ?_⟩, ⟨hX, X1, X2⟩, ⟨va_Zref (hts (.laysStatic "KnowHouse" "KIND_ABOVE" "[I") (List.mem_of_getElem? (i := 403) (by decide +kernel))) (hts (.initialized "KnowHouse") (List.mem_of_getElem? (i := 66) (by decide +kernel))) e1 hA, va_Zref (hts (.laysStatic "KnowHouse$Acts" "BODIES" "[I") (List.mem_of_getElem? (i := 744) (by decide +kernel))) (hts (.initialized "KnowHouse$Acts") (List.mem_of_getElem? (i := 72) (by decide +kernel))) e2 hA⟩, ⟨fun w hw => ?_, fun C hC => ?_⟩, hbl, l1, l2, Nat.le_refl _⟩
  · match k, hq with
    | 0, hq => cases hq; exact ⟨kI1, kI2⟩
    | 1, hq => cases hq; exact ⟨p0, q0⟩
    | 2, hq => cases hq; exact ⟨p1, q1⟩
    | 3, hq => cases hq; exact ⟨p2, q2⟩
    | 4, hq => cases hq; exact ⟨p3, q3⟩
    | k + 5, hq => simp [tysG] at hq
  · simp only [nestW, List.mem_cons, List.not_mem_nil, or_false] at hw
    rcases hw with rfl | rfl | rfl | rfl | rfl | rfl | rfl | rfl
    · exact va_Nw.of rfl (hts _ (List.mem_of_getElem? (i := 162) (by decide +kernel)))
    · exact va_Nw.of rfl (hts _ (List.mem_of_getElem? (i := 190) (by decide +kernel)))
    · exact va_Nw.of rfl (hts _ (List.mem_of_getElem? (i := 200) (by decide +kernel)))
    · exact va_Nw.of rfl (hts _ (List.mem_of_getElem? (i := 227) (by decide +kernel)))
    · exact va_Nw.of rfl (hts _ (List.mem_of_getElem? (i := 243) (by decide +kernel)))
    · exact va_Nw.of rfl (hts _ (List.mem_of_getElem? (i := 399) (by decide +kernel)))
    · exact va_Nw.of rfl (hts _ (List.mem_of_getElem? (i := 779) (by decide +kernel)))
    · exact va_Nw.of rfl (hts _ (List.mem_of_getElem? (i := 745) (by decide +kernel)))
  · simp only [overC, List.mem_cons, List.not_mem_nil, or_false] at hC
    rcases hC with rfl | rfl | rfl | rfl
    · exact va_AO.of (hts _ (List.mem_of_getElem? (i := 96) (by decide +kernel)))
    · exact va_AO.of (hts _ (List.mem_of_getElem? (i := 98) (by decide +kernel)))
    · exact va_AO.of (hts _ (List.mem_of_getElem? (i := 101) (by decide +kernel)))
    · exact va_AO.of (hts _ (List.mem_of_getElem? (i := 241) (by decide +kernel)))
theorem start_Rep {G : gG} {s : State} (h0 : g_0 G = s.heap.size) : Rep G (h00 (g_L G) (g_xs G)) s.heap := by
  refine ⟨Nat.le_refl 3, ?_, fun k q hq => ?_, rfl, rfl, rfl⟩
  · show s.heap.size = g_0 G + (3 - 3)
    omega
  · have e : wl G (h00 (g_L G) (g_xs G)) = [] := rfl
    rw [e] at hq
    cases hq
