/-! what each instruction does, as an equation: printed by wip/whole/gen/gen.py -/
section UU
variable {cal : Nat → List aV → aH → aR} {ls st : List aV} {h : aH} {y y2 x0 x1 x2 x3 x4 x5 x6 x7 x8 x9 x10 x11 x12 x13 x14 x15 x16 x17 x18 x19 : aV} {a b : Nat} {i j c v z0 z1 z2 z3 z4 z5 z6 z7 : Int} {r r0 r1 r2 r3 r4 r5 r6 r7 : Option Nat}

theorem e_ist {K : aK} {pc n k : Nat} {v : Int} (hk : lk K pc = some (.inl (s_ist k n))) (hok : aOk ls k = true) (hl : k < ls.length) : ex cal K pc ls (aI v :: st) h = ex cal K n (ls.set k (aI v)) st h := ex_st cal hk (by simp only [s_ist, aI]; rw [if_pos ⟨hok, hl⟩])
theorem e_ast {K : aK} {pc n k : Nat} {r : Option Nat} (hk : lk K pc = some (.inl (s_ast k n))) (hok : aOk ls k = true) (hl : k < ls.length) : ex cal K pc ls (aQ r :: st) h = ex cal K n (ls.set k (aQ r)) st h := ex_st cal hk (by simp only [s_ast, aQ]; rw [if_pos ⟨hok, hl⟩])
theorem e_inc {K : aK} {pc n k : Nat} {v c : Int} (hk : lk K pc = some (.inl (s_inc k c n))) (hv : ls[k]? = some (aI v)) (hok : aOk ls k = true) : ex cal K pc ls st h = ex cal K n (ls.set k (aI (v + c))) st h := by
  refine ex_st cal hk ?_
  unfold s_inc
  rw [hv]
  simp only [aI]
  rw [if_pos hok]
theorem e_div2 {K : aK} {pc n : Nat} (hk : lk K pc = some (.inl (s_div n))) (h0 : j ≠ 0) (h1 : -2147483648 ≤ j) (h2 : j < 2147483648) : ex cal K pc ls (aI j :: aI i :: st) h = ex cal K n ls (aI ((wr i).tdiv j) :: st) h := by
  have e := e_div cal (x := i) (y := j) (st := st) (h := h) (ls := ls) hk (by rw [wr_id h1 h2]; exact h0)
  rw [wr_id h1 h2] at e
  exact e
theorem e_rem2 {K : aK} {pc n : Nat} (hk : lk K pc = some (.inl (s_rem n))) (h0 : j ≠ 0) (h1 : -2147483648 ≤ j) (h2 : j < 2147483648) : ex cal K pc ls (aI j :: aI i :: st) h = ex cal K n ls (aI ((wr i).tmod j) :: st) h := by
  have e := e_rem cal (x := i) (y := j) (st := st) (h := h) (ls := ls) hk (by rw [wr_id h1 h2]; exact h0)
  rw [wr_id h1 h2] at e
  exact e
theorem e_dup {K : aK} {pc n : Nat} (hk : lk K pc = some (.inl (s_dup n))) (hx : aNl y = true) : ex cal K pc ls (y :: st) h = ex cal K n ls (y :: y :: st) h := ex_st cal hk (by simp only [s_dup]; rw [if_pos hx])
theorem e_dup2 {K : aK} {pc n : Nat} (hk : lk K pc = some (.inl (s_dup2 n))) (hx : aNl y = true) (hy : aNl y2 = true) : ex cal K pc ls (y :: y2 :: st) h = ex cal K n ls (y :: y2 :: y :: y2 :: st) h := ex_st cal hk (by simp only [s_dup2]; rw [if_pos ⟨hx, hy⟩])
theorem e_pf1 {K : aK} {pc n ci k : Nat} {v : aV} (hk : lk K pc = some (.inl (s_pf ci k n))) (ht : okT (aTy ci k) v = true) : ex cal K pc ls (v :: aQ (some a) :: st) h = gO h a ci (ex cal K n ls st (pf h a k v)) := by
  rw [e_pf cal hk, ht]; rfl
theorem okT1 {v : Int} (hv : v = 0 ∨ v = 1) : okT 1 (aI v) = true := by rcases hv with rfl | rfl <;> rfl
theorem e_ret22 {K : aK} {pc : Nat} (hk : lk K pc = some (.inr (.inr 2))) (hv : v = 0 ∨ v = 1) : ex cal K pc ls [aI v] h = some (some (aI v), h) := by
  rw [e_ret2 cal hk]
  rcases hv with rfl | rfl <;> rfl
theorem u_A_init_0 : ex cal k_A_init 0 (aQ r :: ls) (st) h = ex cal k_A_init 1 (aQ r :: ls) (aQ r :: st) h := ex_st cal (s := s_ald 0 1) rfl rfl
theorem u_A_init_1 (hl : Nat.ble st.length 4 = true) : ex cal k_A_init 1 (ls) (aQ (some a) :: st) h = ex cal k_A_init 4 (ls) (st) h := e_oi cal rfl (Nat.le_of_ble_eq_true hl)
theorem u_A_init_4 : ex cal k_A_init 4 (aQ r :: ls) (st) h = ex cal k_A_init 5 (aQ r :: ls) (aQ r :: st) h := ex_st cal (s := s_ald 0 5) rfl rfl
theorem u_A_init_5 : ex cal k_A_init 5 (ls) (st) h = ex cal k_A_init 7 (ls) (aI 50 :: st) h := e_push cal rfl
theorem u_A_init_7 (h1 : 0 ≤ i) (h2 : i ≤ 100000) : ex cal k_A_init 7 (ls) (aI i :: st) h = ex cal k_A_init 9 (ls) (aQ (some (aSz h)) :: st) (aNew h (.inr (.inl (i.toNat, fun _ => 0))) i.toNat) := e_nai cal rfl h1 h2
theorem u_A_init_9 : ex cal k_A_init 9 (ls) (aQ r :: aQ (some a) :: st) h = gO h a 0 (ex cal k_A_init 12 (ls) (st) (pf h a 0 (aQ r))) := e_pf1 rfl rfl
theorem u_A_init_12 : ex cal k_A_init 12 (ls) ([]) h = some (none, h) := e_ret0 cal rfl
theorem n_A_init (d : Nat) : ev (d + 1) M_A_init [aQ (some a)] h = ex (ev d) k_A_init 0 [aQ (some a)] [] h := rfl
theorem u_A_perform_0 : ex cal k_A_perform 0 (aQ r :: ls) (st) h = ex cal k_A_perform 1 (aQ r :: ls) (aQ r :: st) h := ex_st cal (s := s_ald 0 1) rfl rfl
theorem u_A_perform_1 : ex cal k_A_perform 1 (ls) (st) h = ex cal k_A_perform 2 (ls) (aI 0 :: st) h := e_push cal rfl
theorem u_A_perform_2 : ex cal k_A_perform 2 (ls) (aI v :: aQ (some a) :: st) h = gO h a 0 (ex cal k_A_perform 5 (ls) (st) (pf h a 1 (aI v))) := e_pf1 rfl rfl
theorem u_A_perform_5 : ex cal k_A_perform 5 (aQ r :: ls) (st) h = ex cal k_A_perform 6 (aQ r :: ls) (aQ r :: st) h := ex_st cal (s := s_ald 0 6) rfl rfl
theorem u_A_perform_6 : ex cal k_A_perform 6 (x0 :: aQ r :: ls) (st) h = ex cal k_A_perform 7 (x0 :: aQ r :: ls) (aQ r :: st) h := ex_st cal (s := s_ald 1 7) rfl rfl
theorem u_A_perform_7 : ex cal k_A_perform 7 (x0 :: aQ r :: ls) (st) h = ex cal k_A_perform 8 (x0 :: aQ r :: ls) (aQ r :: st) h := ex_st cal (s := s_ald 1 8) rfl rfl
theorem u_A_perform_8 : ex cal k_A_perform 8 (ls) (aQ (some a) :: st) h = gO h a 1 (ex cal k_A_perform 11 (ls) (gf h a 1 :: st) h) := e_gf cal rfl
theorem u_A_perform_11 : ex cal k_A_perform 11 (x0 :: x1 :: aI v :: ls) (st) h = ex cal k_A_perform 12 (x0 :: x1 :: aI v :: ls) (aI v :: st) h := ex_st cal (s := s_ild 2 12) rfl rfl
theorem u_A_perform_12 : ex cal k_A_perform 12 (x0 :: x1 :: x2 :: aI v :: ls) (st) h = ex cal k_A_perform 13 (x0 :: x1 :: x2 :: aI v :: ls) (aI v :: st) h := ex_st cal (s := s_ild 3 13) rfl rfl
theorem u_A_perform_13 : ex cal k_A_perform 13 (ls) (st) h = ex cal k_A_perform 14 (ls) (aI 0 :: st) h := e_push cal rfl
theorem u_A_perform_14 (hl : Nat.ble st.length 4 = true) : ex cal k_A_perform 14 (ls) (aI z5 :: aI z4 :: aI z3 :: aI z2 :: aQ r1 :: aQ r0 :: st) h = kk cal k_A_perform 17 ls st (cal M_A_run [aQ r0, aQ r1, aI z2, aI z3, aI z4, aI z5] h) := e_call cal (as := [aI z5, aI z4, aI z3, aI z2, aQ r1, aQ r0]) rfl rfl (Nat.le_of_ble_eq_true hl)
theorem u_A_perform_17 : ex cal k_A_perform 17 (ls) ([aI v]) h = some (some (aI v), h) := e_ret1 cal rfl
theorem n_A_perform (d : Nat) : ev (d + 1) M_A_perform [aQ (some a), aQ r0, aI z1, aI z2] h = ex (ev d) k_A_perform 0 [aQ (some a), aQ r0, aI z1, aI z2] [] h := rfl
theorem u_A_run_0 : ex cal k_A_run 0 (x0 :: x1 :: aI v :: ls) (st) h = ex cal k_A_run 1 (x0 :: x1 :: aI v :: ls) (aI v :: st) h := ex_st cal (s := s_ild 2 1) rfl rfl
theorem u_A_run_1 : ex cal k_A_run 1 (x0 :: x1 :: x2 :: aI v :: ls) (st) h = ex cal k_A_run 2 (x0 :: x1 :: x2 :: aI v :: ls) (aI v :: st) h := ex_st cal (s := s_ild 3 2) rfl rfl
theorem u_A_run_2 (hl : Nat.ble st.length 4 = true) : ex cal k_A_run 2 (ls) (aI z1 :: aI z0 :: st) h = kk cal k_A_run 5 ls st (cal M_A_kindWithBody [aI z0, aI z1] h) := e_call cal (as := [aI z1, aI z0]) rfl rfl (Nat.le_of_ble_eq_true hl)
theorem u_A_run_5 (hx : aNl x5 = true) : ex cal k_A_run 5 (x0 :: x1 :: x2 :: x3 :: x4 :: x5 :: y :: ls) (aI v :: st) h = ex cal k_A_run 7 (x0 :: x1 :: x2 :: x3 :: x4 :: x5 :: aI v :: ls) (st) h := e_ist (ls := x0 :: x1 :: x2 :: x3 :: x4 :: x5 :: y :: ls) (k := 6) rfl hx (by simp only [List.length_cons]; omega)
theorem u_A_run_7 : ex cal k_A_run 7 (x0 :: x1 :: x2 :: x3 :: x4 :: x5 :: aI v :: ls) (st) h = ex cal k_A_run 9 (x0 :: x1 :: x2 :: x3 :: x4 :: x5 :: aI v :: ls) (aI v :: st) h := ex_st cal (s := s_ild 6 9) rfl rfl
theorem u_A_run_9 : ex cal k_A_run 9 (ls) (st) h = ex cal k_A_run 10 (ls) (aI (-1) :: st) h := e_push cal rfl
theorem u_A_run_10 : ex cal k_A_run 10 (ls) (aI j :: aI i :: st) h = if wr i = wr j then ex cal k_A_run 20 (ls) (st) h else ex cal k_A_run 13 (ls) (st) h := e_iceq cal rfl
theorem u_A_run_13 : ex cal k_A_run 13 (x0 :: x1 :: x2 :: x3 :: x4 :: aI v :: ls) (st) h = ex cal k_A_run 15 (x0 :: x1 :: x2 :: x3 :: x4 :: aI v :: ls) (aI v :: st) h := ex_st cal (s := s_ild 5 15) rfl rfl
theorem u_A_run_15 : ex cal k_A_run 15 (ls) (st) h = ex cal k_A_run 17 (ls) (aI 40 :: st) h := e_push cal rfl
theorem u_A_run_17 : ex cal k_A_run 17 (ls) (aI j :: aI i :: st) h = if wr j < wr i then ex cal k_A_run 20 (ls) (st) h else ex cal k_A_run 22 (ls) (st) h := e_icle cal rfl
theorem u_A_run_20 : ex cal k_A_run 20 (ls) (st) h = ex cal k_A_run 21 (ls) (aI 0 :: st) h := e_push cal rfl
theorem u_A_run_21 : ex cal k_A_run 21 (ls) ([aI v]) h = some (some (aI v), h) := e_ret1 cal rfl
theorem u_A_run_22 : ex cal k_A_run 22 (ls) (st) h = ex cal k_A_run 25 (ls) (aQ (some 1) :: st) h := e_push cal rfl
theorem u_A_run_25 : ex cal k_A_run 25 (x0 :: x1 :: x2 :: x3 :: x4 :: x5 :: aI v :: ls) (st) h = ex cal k_A_run 27 (x0 :: x1 :: x2 :: x3 :: x4 :: x5 :: aI v :: ls) (aI v :: st) h := ex_st cal (s := s_ild 6 27) rfl rfl
theorem u_A_run_27 : ex cal k_A_run 27 (ls) (aI i :: aQ (some a) :: st) h = gA h a i (ex cal k_A_run 28 (ls) (aI (ai h a (wr i)) :: st) h) := e_ia cal rfl
theorem u_A_run_28 (hx : aNl x6 = true) : ex cal k_A_run 28 (x0 :: x1 :: x2 :: x3 :: x4 :: x5 :: x6 :: y :: ls) (aI v :: st) h = ex cal k_A_run 30 (x0 :: x1 :: x2 :: x3 :: x4 :: x5 :: x6 :: aI v :: ls) (st) h := e_ist (ls := x0 :: x1 :: x2 :: x3 :: x4 :: x5 :: x6 :: y :: ls) (k := 7) rfl hx (by simp only [List.length_cons]; omega)
theorem u_A_run_30 : ex cal k_A_run 30 (ls) (st) h = ex cal k_A_run 33 (ls) (aQ (some 2) :: st) h := e_push cal rfl
theorem u_A_run_33 : ex cal k_A_run 33 (x0 :: x1 :: x2 :: x3 :: x4 :: x5 :: aI v :: ls) (st) h = ex cal k_A_run 35 (x0 :: x1 :: x2 :: x3 :: x4 :: x5 :: aI v :: ls) (aI v :: st) h := ex_st cal (s := s_ild 6 35) rfl rfl
theorem u_A_run_35 : ex cal k_A_run 35 (ls) (st) h = ex cal k_A_run 36 (ls) (aI 4 :: st) h := e_push cal rfl
theorem u_A_run_36 : ex cal k_A_run 36 (ls) (aI j :: aI i :: st) h = ex cal k_A_run 37 (ls) (aI (i * j) :: st) h := e_bin cal rfl
theorem u_A_run_37 : ex cal k_A_run 37 (x0 :: x1 :: x2 :: aI v :: ls) (st) h = ex cal k_A_run 38 (x0 :: x1 :: x2 :: aI v :: ls) (aI v :: st) h := ex_st cal (s := s_ild 3 38) rfl rfl
theorem u_A_run_38 : ex cal k_A_run 38 (ls) (aI j :: aI i :: st) h = ex cal k_A_run 39 (ls) (aI (i + j) :: st) h := e_bin cal rfl
theorem u_A_run_39 : ex cal k_A_run 39 (ls) (aI i :: aQ (some a) :: st) h = gA h a i (ex cal k_A_run 40 (ls) (aI (ai h a (wr i)) :: st) h) := e_ia cal rfl
theorem u_A_run_40 (hx : aNl x7 = true) : ex cal k_A_run 40 (x0 :: x1 :: x2 :: x3 :: x4 :: x5 :: x6 :: x7 :: y :: ls) (aI v :: st) h = ex cal k_A_run 42 (x0 :: x1 :: x2 :: x3 :: x4 :: x5 :: x6 :: x7 :: aI v :: ls) (st) h := e_ist (ls := x0 :: x1 :: x2 :: x3 :: x4 :: x5 :: x6 :: x7 :: y :: ls) (k := 8) rfl hx (by simp only [List.length_cons]; omega)
theorem u_A_run_42 : ex cal k_A_run 42 (x0 :: x1 :: x2 :: x3 :: x4 :: aI v :: ls) (st) h = ex cal k_A_run 44 (x0 :: x1 :: x2 :: x3 :: x4 :: aI v :: ls) (aI v :: st) h := ex_st cal (s := s_ild 5 44) rfl rfl
theorem u_A_run_44 : ex cal k_A_run 44 (ls) (st) h = ex cal k_A_run 45 (ls) (aI 1 :: st) h := e_push cal rfl
theorem u_A_run_45 : ex cal k_A_run 45 (ls) (aI j :: aI i :: st) h = ex cal k_A_run 46 (ls) (aI (i + j) :: st) h := e_bin cal rfl
theorem u_A_run_46 (hx : aNl x8 = true) : ex cal k_A_run 46 (x0 :: x1 :: x2 :: x3 :: x4 :: x5 :: x6 :: x7 :: x8 :: y :: ls) (aI v :: st) h = ex cal k_A_run 48 (x0 :: x1 :: x2 :: x3 :: x4 :: x5 :: x6 :: x7 :: x8 :: aI v :: ls) (st) h := e_ist (ls := x0 :: x1 :: x2 :: x3 :: x4 :: x5 :: x6 :: x7 :: x8 :: y :: ls) (k := 9) rfl hx (by simp only [List.length_cons]; omega)
theorem u_A_run_48 : ex cal k_A_run 48 (aQ r :: ls) (st) h = ex cal k_A_run 49 (aQ r :: ls) (aQ r :: st) h := ex_st cal (s := s_ald 0 49) rfl rfl
theorem u_A_run_49 : ex cal k_A_run 49 (x0 :: x1 :: x2 :: x3 :: x4 :: x5 :: x6 :: x7 :: aI v :: ls) (st) h = ex cal k_A_run 51 (x0 :: x1 :: x2 :: x3 :: x4 :: x5 :: x6 :: x7 :: aI v :: ls) (aI v :: st) h := ex_st cal (s := s_ild 8 51) rfl rfl
theorem u_A_run_51 (hl : Nat.ble st.length 4 = true) : ex cal k_A_run 51 (ls) (aI z0 :: aQ (some a) :: st) h = gO h a 0 (kk cal k_A_run 54 ls st (cal M_A_begin [aQ (some a), aI z0] h)) := e_callV cal (ci := 0) (as := [aI z0]) rfl (by decide) rfl (Nat.le_of_ble_eq_true hl)
theorem u_A_run_54 : ex cal k_A_run 54 (x0 :: x1 :: x2 :: x3 :: x4 :: x5 :: x6 :: x7 :: aI v :: ls) (st) h = ex cal k_A_run 56 (x0 :: x1 :: x2 :: x3 :: x4 :: x5 :: x6 :: x7 :: aI v :: ls) (aI v :: st) h := ex_st cal (s := s_ild 8 56) rfl rfl
theorem u_A_run_56 : ex cal k_A_run 56 (ls) (aI i :: st) h = ex cal k_A_run (swt [(10, 156), (11, 164), (12, 181), (13, 189), (20, 219), (21, 237), (30, 252), (40, 267), (50, 295), (60, 323), (61, 341)] 359 (wr i)) ls st h := e_sw cal rfl
theorem u_A_run_156 : ex cal k_A_run 156 (x0 :: x1 :: x2 :: x3 :: aI v :: ls) (st) h = ex cal k_A_run 158 (x0 :: x1 :: x2 :: x3 :: aI v :: ls) (aI v :: st) h := ex_st cal (s := s_ild 4 158) rfl rfl
theorem u_A_run_158 : ex cal k_A_run 158 (x0 :: aQ r :: ls) (st) h = ex cal k_A_run 159 (x0 :: aQ r :: ls) (aQ r :: st) h := ex_st cal (s := s_ald 1 159) rfl rfl
theorem u_A_run_159 : ex cal k_A_run 159 (ls) (aQ (some a) :: st) h = gO h a 1 (ex cal k_A_run 162 (ls) (gf h a 3 :: st) h) := e_gf cal rfl
theorem u_A_run_162 : ex cal k_A_run 162 (ls) (aI j :: aI i :: st) h = ex cal k_A_run 163 (ls) (aI (i + j) :: st) h := e_bin cal rfl
theorem u_A_run_163 : ex cal k_A_run 163 (ls) ([aI v]) h = some (some (aI v), h) := e_ret1 cal rfl
theorem u_A_run_164 : ex cal k_A_run 164 (aQ r :: ls) (st) h = ex cal k_A_run 165 (aQ r :: ls) (aQ r :: st) h := ex_st cal (s := s_ald 0 165) rfl rfl
theorem u_A_run_165 : ex cal k_A_run 165 (x0 :: aQ r :: ls) (st) h = ex cal k_A_run 166 (x0 :: aQ r :: ls) (aQ r :: st) h := ex_st cal (s := s_ald 1 166) rfl rfl
theorem u_A_run_166 : ex cal k_A_run 166 (x0 :: aQ r :: ls) (st) h = ex cal k_A_run 167 (x0 :: aQ r :: ls) (aQ r :: st) h := ex_st cal (s := s_ald 1 167) rfl rfl
theorem u_A_run_167 : ex cal k_A_run 167 (ls) (aQ (some a) :: st) h = gO h a 1 (ex cal k_A_run 170 (ls) (gf h a 1 :: st) h) := e_gf cal rfl
theorem u_A_run_170 : ex cal k_A_run 170 (ls) (st) h = ex cal k_A_run 171 (ls) (aI 0 :: st) h := e_push cal rfl
theorem u_A_run_171 : ex cal k_A_run 171 (x0 :: x1 :: x2 :: x3 :: aI v :: ls) (st) h = ex cal k_A_run 173 (x0 :: x1 :: x2 :: x3 :: aI v :: ls) (aI v :: st) h := ex_st cal (s := s_ild 4 173) rfl rfl
theorem u_A_run_173 : ex cal k_A_run 173 (x0 :: x1 :: x2 :: x3 :: x4 :: x5 :: x6 :: x7 :: x8 :: aI v :: ls) (st) h = ex cal k_A_run 175 (x0 :: x1 :: x2 :: x3 :: x4 :: x5 :: x6 :: x7 :: x8 :: aI v :: ls) (aI v :: st) h := ex_st cal (s := s_ild 9 175) rfl rfl
theorem u_A_run_175 (hl : Nat.ble st.length 4 = true) : ex cal k_A_run 175 (ls) (aI z5 :: aI z4 :: aI z3 :: aI z2 :: aQ r1 :: aQ r0 :: st) h = kk cal k_A_run 178 ls st (cal M_A_run [aQ r0, aQ r1, aI z2, aI z3, aI z4, aI z5] h) := e_call cal (as := [aI z5, aI z4, aI z3, aI z2, aQ r1, aQ r0]) rfl rfl (Nat.le_of_ble_eq_true hl)
theorem u_A_run_178 : ex cal k_A_run 178 (ls) (st) h = ex cal k_A_run 179 (ls) (aI 2 :: st) h := e_push cal rfl
theorem u_A_run_179 : ex cal k_A_run 179 (ls) (aI j :: aI i :: st) h = ex cal k_A_run 180 (ls) (aI (i * j) :: st) h := e_bin cal rfl
theorem u_A_run_180 : ex cal k_A_run 180 (ls) ([aI v]) h = some (some (aI v), h) := e_ret1 cal rfl
theorem u_A_run_181 : ex cal k_A_run 181 (x0 :: x1 :: x2 :: x3 :: aI v :: ls) (st) h = ex cal k_A_run 183 (x0 :: x1 :: x2 :: x3 :: aI v :: ls) (aI v :: st) h := ex_st cal (s := s_ild 4 183) rfl rfl
theorem u_A_run_183 : ex cal k_A_run 183 (x0 :: aQ r :: ls) (st) h = ex cal k_A_run 184 (x0 :: aQ r :: ls) (aQ r :: st) h := ex_st cal (s := s_ald 1 184) rfl rfl
theorem u_A_run_184 : ex cal k_A_run 184 (ls) (aQ (some a) :: st) h = gO h a 1 (ex cal k_A_run 187 (ls) (gf h a 5 :: st) h) := e_gf cal rfl
theorem u_A_run_187 : ex cal k_A_run 187 (ls) (aI j :: aI i :: st) h = ex cal k_A_run 188 (ls) (aI (i - j) :: st) h := e_bin cal rfl
theorem u_A_run_188 : ex cal k_A_run 188 (ls) ([aI v]) h = some (some (aI v), h) := e_ret1 cal rfl
theorem u_A_run_189 : ex cal k_A_run 189 (aQ r :: ls) (st) h = ex cal k_A_run 190 (aQ r :: ls) (aQ r :: st) h := ex_st cal (s := s_ald 0 190) rfl rfl
theorem u_A_run_190 : ex cal k_A_run 190 (x0 :: aQ r :: ls) (st) h = ex cal k_A_run 191 (x0 :: aQ r :: ls) (aQ r :: st) h := ex_st cal (s := s_ald 1 191) rfl rfl
theorem u_A_run_191 : ex cal k_A_run 191 (x0 :: aQ r :: ls) (st) h = ex cal k_A_run 192 (x0 :: aQ r :: ls) (aQ r :: st) h := ex_st cal (s := s_ald 1 192) rfl rfl
theorem u_A_run_192 : ex cal k_A_run 192 (ls) (aQ (some a) :: st) h = gO h a 1 (ex cal k_A_run 195 (ls) (gf h a 1 :: st) h) := e_gf cal rfl
theorem u_A_run_195 : ex cal k_A_run 195 (ls) (st) h = ex cal k_A_run 196 (ls) (aI 1 :: st) h := e_push cal rfl
theorem u_A_run_196 : ex cal k_A_run 196 (x0 :: x1 :: x2 :: x3 :: aI v :: ls) (st) h = ex cal k_A_run 198 (x0 :: x1 :: x2 :: x3 :: aI v :: ls) (aI v :: st) h := ex_st cal (s := s_ild 4 198) rfl rfl
theorem u_A_run_198 : ex cal k_A_run 198 (x0 :: x1 :: x2 :: x3 :: x4 :: x5 :: x6 :: x7 :: x8 :: aI v :: ls) (st) h = ex cal k_A_run 200 (x0 :: x1 :: x2 :: x3 :: x4 :: x5 :: x6 :: x7 :: x8 :: aI v :: ls) (aI v :: st) h := ex_st cal (s := s_ild 9 200) rfl rfl
theorem u_A_run_200 (hl : Nat.ble st.length 4 = true) : ex cal k_A_run 200 (ls) (aI z5 :: aI z4 :: aI z3 :: aI z2 :: aQ r1 :: aQ r0 :: st) h = kk cal k_A_run 203 ls st (cal M_A_run [aQ r0, aQ r1, aI z2, aI z3, aI z4, aI z5] h) := e_call cal (as := [aI z5, aI z4, aI z3, aI z2, aQ r1, aQ r0]) rfl rfl (Nat.le_of_ble_eq_true hl)
theorem u_A_run_203 : ex cal k_A_run 203 (aQ r :: ls) (st) h = ex cal k_A_run 204 (aQ r :: ls) (aQ r :: st) h := ex_st cal (s := s_ald 0 204) rfl rfl
theorem u_A_run_204 : ex cal k_A_run 204 (x0 :: aQ r :: ls) (st) h = ex cal k_A_run 205 (x0 :: aQ r :: ls) (aQ r :: st) h := ex_st cal (s := s_ald 1 205) rfl rfl
theorem u_A_run_205 : ex cal k_A_run 205 (x0 :: aQ r :: ls) (st) h = ex cal k_A_run 206 (x0 :: aQ r :: ls) (aQ r :: st) h := ex_st cal (s := s_ald 1 206) rfl rfl
theorem u_A_run_206 : ex cal k_A_run 206 (ls) (aQ (some a) :: st) h = gO h a 1 (ex cal k_A_run 209 (ls) (gf h a 1 :: st) h) := e_gf cal rfl
theorem u_A_run_209 : ex cal k_A_run 209 (ls) (st) h = ex cal k_A_run 210 (ls) (aI 2 :: st) h := e_push cal rfl
theorem u_A_run_210 : ex cal k_A_run 210 (x0 :: x1 :: x2 :: x3 :: aI v :: ls) (st) h = ex cal k_A_run 212 (x0 :: x1 :: x2 :: x3 :: aI v :: ls) (aI v :: st) h := ex_st cal (s := s_ild 4 212) rfl rfl
theorem u_A_run_212 : ex cal k_A_run 212 (x0 :: x1 :: x2 :: x3 :: x4 :: x5 :: x6 :: x7 :: x8 :: aI v :: ls) (st) h = ex cal k_A_run 214 (x0 :: x1 :: x2 :: x3 :: x4 :: x5 :: x6 :: x7 :: x8 :: aI v :: ls) (aI v :: st) h := ex_st cal (s := s_ild 9 214) rfl rfl
theorem u_A_run_214 (hl : Nat.ble st.length 4 = true) : ex cal k_A_run 214 (ls) (aI z5 :: aI z4 :: aI z3 :: aI z2 :: aQ r1 :: aQ r0 :: st) h = kk cal k_A_run 217 ls st (cal M_A_run [aQ r0, aQ r1, aI z2, aI z3, aI z4, aI z5] h) := e_call cal (as := [aI z5, aI z4, aI z3, aI z2, aQ r1, aQ r0]) rfl rfl (Nat.le_of_ble_eq_true hl)
theorem u_A_run_217 : ex cal k_A_run 217 (ls) (aI j :: aI i :: st) h = ex cal k_A_run 218 (ls) (aI (wxor i j) :: st) h := e_bin cal rfl
theorem u_A_run_218 : ex cal k_A_run 218 (ls) ([aI v]) h = some (some (aI v), h) := e_ret1 cal rfl
theorem u_A_run_219 : ex cal k_A_run 219 (aQ r :: ls) (st) h = ex cal k_A_run 220 (aQ r :: ls) (aQ r :: st) h := ex_st cal (s := s_ald 0 220) rfl rfl
theorem u_A_run_220 : ex cal k_A_run 220 (x0 :: aQ r :: ls) (st) h = ex cal k_A_run 221 (x0 :: aQ r :: ls) (aQ r :: st) h := ex_st cal (s := s_ald 1 221) rfl rfl
theorem u_A_run_221 : ex cal k_A_run 221 (x0 :: x1 :: x2 :: x3 :: x4 :: x5 :: x6 :: aI v :: ls) (st) h = ex cal k_A_run 223 (x0 :: x1 :: x2 :: x3 :: x4 :: x5 :: x6 :: aI v :: ls) (aI v :: st) h := ex_st cal (s := s_ild 7 223) rfl rfl
theorem u_A_run_223 : ex cal k_A_run 223 (ls) (st) h = ex cal k_A_run 224 (ls) (aI 0 :: st) h := e_push cal rfl
theorem u_A_run_224 : ex cal k_A_run 224 (x0 :: x1 :: x2 :: x3 :: aI v :: ls) (st) h = ex cal k_A_run 226 (x0 :: x1 :: x2 :: x3 :: aI v :: ls) (aI v :: st) h := ex_st cal (s := s_ild 4 226) rfl rfl
theorem u_A_run_226 : ex cal k_A_run 226 (x0 :: x1 :: x2 :: x3 :: x4 :: x5 :: x6 :: x7 :: x8 :: aI v :: ls) (st) h = ex cal k_A_run 228 (x0 :: x1 :: x2 :: x3 :: x4 :: x5 :: x6 :: x7 :: x8 :: aI v :: ls) (aI v :: st) h := ex_st cal (s := s_ild 9 228) rfl rfl
theorem u_A_run_228 (hl : Nat.ble st.length 4 = true) : ex cal k_A_run 228 (ls) (aI z5 :: aI z4 :: aI z3 :: aI z2 :: aQ r1 :: aQ r0 :: st) h = kk cal k_A_run 231 ls st (cal M_A_run [aQ r0, aQ r1, aI z2, aI z3, aI z4, aI z5] h) := e_call cal (as := [aI z5, aI z4, aI z3, aI z2, aQ r1, aQ r0]) rfl rfl (Nat.le_of_ble_eq_true hl)
theorem u_A_run_231 : ex cal k_A_run 231 (x0 :: aQ r :: ls) (st) h = ex cal k_A_run 232 (x0 :: aQ r :: ls) (aQ r :: st) h := ex_st cal (s := s_ald 1 232) rfl rfl
theorem u_A_run_232 : ex cal k_A_run 232 (ls) (aQ (some a) :: st) h = gO h a 1 (ex cal k_A_run 235 (ls) (gf h a 0 :: st) h) := e_gf cal rfl
theorem u_A_run_235 : ex cal k_A_run 235 (ls) (aI j :: aI i :: st) h = ex cal k_A_run 236 (ls) (aI (i + j) :: st) h := e_bin cal rfl
theorem u_A_run_236 : ex cal k_A_run 236 (ls) ([aI v]) h = some (some (aI v), h) := e_ret1 cal rfl
theorem u_A_run_237 : ex cal k_A_run 237 (aQ r :: ls) (st) h = ex cal k_A_run 238 (aQ r :: ls) (aQ r :: st) h := ex_st cal (s := s_ald 0 238) rfl rfl
theorem u_A_run_238 : ex cal k_A_run 238 (x0 :: aQ r :: ls) (st) h = ex cal k_A_run 239 (x0 :: aQ r :: ls) (aQ r :: st) h := ex_st cal (s := s_ald 1 239) rfl rfl
theorem u_A_run_239 : ex cal k_A_run 239 (x0 :: x1 :: x2 :: x3 :: x4 :: x5 :: x6 :: aI v :: ls) (st) h = ex cal k_A_run 241 (x0 :: x1 :: x2 :: x3 :: x4 :: x5 :: x6 :: aI v :: ls) (aI v :: st) h := ex_st cal (s := s_ild 7 241) rfl rfl
theorem u_A_run_241 : ex cal k_A_run 241 (ls) (st) h = ex cal k_A_run 242 (ls) (aI 3 :: st) h := e_push cal rfl
theorem u_A_run_242 : ex cal k_A_run 242 (x0 :: x1 :: x2 :: x3 :: aI v :: ls) (st) h = ex cal k_A_run 244 (x0 :: x1 :: x2 :: x3 :: aI v :: ls) (aI v :: st) h := ex_st cal (s := s_ild 4 244) rfl rfl
theorem u_A_run_244 : ex cal k_A_run 244 (ls) (st) h = ex cal k_A_run 245 (ls) (aI 1 :: st) h := e_push cal rfl
theorem u_A_run_245 : ex cal k_A_run 245 (ls) (aI j :: aI i :: st) h = ex cal k_A_run 246 (ls) (aI (i + j) :: st) h := e_bin cal rfl
theorem u_A_run_246 : ex cal k_A_run 246 (x0 :: x1 :: x2 :: x3 :: x4 :: x5 :: x6 :: x7 :: x8 :: aI v :: ls) (st) h = ex cal k_A_run 248 (x0 :: x1 :: x2 :: x3 :: x4 :: x5 :: x6 :: x7 :: x8 :: aI v :: ls) (aI v :: st) h := ex_st cal (s := s_ild 9 248) rfl rfl
theorem u_A_run_248 (hl : Nat.ble st.length 4 = true) : ex cal k_A_run 248 (ls) (aI z5 :: aI z4 :: aI z3 :: aI z2 :: aQ r1 :: aQ r0 :: st) h = kk cal k_A_run 251 ls st (cal M_A_run [aQ r0, aQ r1, aI z2, aI z3, aI z4, aI z5] h) := e_call cal (as := [aI z5, aI z4, aI z3, aI z2, aQ r1, aQ r0]) rfl rfl (Nat.le_of_ble_eq_true hl)
theorem u_A_run_251 : ex cal k_A_run 251 (ls) ([aI v]) h = some (some (aI v), h) := e_ret1 cal rfl
theorem u_A_run_252 : ex cal k_A_run 252 (aQ r :: ls) (st) h = ex cal k_A_run 253 (aQ r :: ls) (aQ r :: st) h := ex_st cal (s := s_ald 0 253) rfl rfl
theorem u_A_run_253 : ex cal k_A_run 253 (x0 :: aQ r :: ls) (st) h = ex cal k_A_run 254 (x0 :: aQ r :: ls) (aQ r :: st) h := ex_st cal (s := s_ald 1 254) rfl rfl
theorem u_A_run_254 : ex cal k_A_run 254 (x0 :: x1 :: x2 :: x3 :: x4 :: x5 :: x6 :: aI v :: ls) (st) h = ex cal k_A_run 256 (x0 :: x1 :: x2 :: x3 :: x4 :: x5 :: x6 :: aI v :: ls) (aI v :: st) h := ex_st cal (s := s_ild 7 256) rfl rfl
theorem u_A_run_256 : ex cal k_A_run 256 (ls) (st) h = ex cal k_A_run 257 (ls) (aI 2 :: st) h := e_push cal rfl
theorem u_A_run_257 : ex cal k_A_run 257 (x0 :: x1 :: x2 :: x3 :: aI v :: ls) (st) h = ex cal k_A_run 259 (x0 :: x1 :: x2 :: x3 :: aI v :: ls) (aI v :: st) h := ex_st cal (s := s_ild 4 259) rfl rfl
theorem u_A_run_259 : ex cal k_A_run 259 (x0 :: x1 :: x2 :: x3 :: x4 :: x5 :: x6 :: x7 :: x8 :: aI v :: ls) (st) h = ex cal k_A_run 261 (x0 :: x1 :: x2 :: x3 :: x4 :: x5 :: x6 :: x7 :: x8 :: aI v :: ls) (aI v :: st) h := ex_st cal (s := s_ild 9 261) rfl rfl
theorem u_A_run_261 (hl : Nat.ble st.length 4 = true) : ex cal k_A_run 261 (ls) (aI z5 :: aI z4 :: aI z3 :: aI z2 :: aQ r1 :: aQ r0 :: st) h = kk cal k_A_run 264 ls st (cal M_A_run [aQ r0, aQ r1, aI z2, aI z3, aI z4, aI z5] h) := e_call cal (as := [aI z5, aI z4, aI z3, aI z2, aQ r1, aQ r0]) rfl rfl (Nat.le_of_ble_eq_true hl)
theorem u_A_run_264 : ex cal k_A_run 264 (ls) (st) h = ex cal k_A_run 265 (ls) (aI 3 :: st) h := e_push cal rfl
theorem u_A_run_265 : ex cal k_A_run 265 (ls) (aI j :: aI i :: st) h = ex cal k_A_run 266 (ls) (aI (i * j) :: st) h := e_bin cal rfl
theorem u_A_run_266 : ex cal k_A_run 266 (ls) ([aI v]) h = some (some (aI v), h) := e_ret1 cal rfl
theorem u_A_run_267 : ex cal k_A_run 267 (aQ r :: ls) (st) h = ex cal k_A_run 268 (aQ r :: ls) (aQ r :: st) h := ex_st cal (s := s_ald 0 268) rfl rfl
theorem u_A_run_268 : ex cal k_A_run 268 (x0 :: aQ r :: ls) (st) h = ex cal k_A_run 269 (x0 :: aQ r :: ls) (aQ r :: st) h := ex_st cal (s := s_ald 1 269) rfl rfl
theorem u_A_run_269 : ex cal k_A_run 269 (x0 :: x1 :: x2 :: x3 :: x4 :: x5 :: x6 :: aI v :: ls) (st) h = ex cal k_A_run 271 (x0 :: x1 :: x2 :: x3 :: x4 :: x5 :: x6 :: aI v :: ls) (aI v :: st) h := ex_st cal (s := s_ild 7 271) rfl rfl
theorem u_A_run_271 : ex cal k_A_run 271 (ls) (st) h = ex cal k_A_run 272 (ls) (aI 1 :: st) h := e_push cal rfl
theorem u_A_run_272 : ex cal k_A_run 272 (x0 :: x1 :: x2 :: x3 :: aI v :: ls) (st) h = ex cal k_A_run 274 (x0 :: x1 :: x2 :: x3 :: aI v :: ls) (aI v :: st) h := ex_st cal (s := s_ild 4 274) rfl rfl
theorem u_A_run_274 : ex cal k_A_run 274 (x0 :: x1 :: x2 :: x3 :: x4 :: x5 :: x6 :: x7 :: x8 :: aI v :: ls) (st) h = ex cal k_A_run 276 (x0 :: x1 :: x2 :: x3 :: x4 :: x5 :: x6 :: x7 :: x8 :: aI v :: ls) (aI v :: st) h := ex_st cal (s := s_ild 9 276) rfl rfl
theorem u_A_run_276 (hl : Nat.ble st.length 4 = true) : ex cal k_A_run 276 (ls) (aI z5 :: aI z4 :: aI z3 :: aI z2 :: aQ r1 :: aQ r0 :: st) h = kk cal k_A_run 279 ls st (cal M_A_run [aQ r0, aQ r1, aI z2, aI z3, aI z4, aI z5] h) := e_call cal (as := [aI z5, aI z4, aI z3, aI z2, aQ r1, aQ r0]) rfl rfl (Nat.le_of_ble_eq_true hl)
theorem u_A_run_279 : ex cal k_A_run 279 (aQ r :: ls) (st) h = ex cal k_A_run 280 (aQ r :: ls) (aQ r :: st) h := ex_st cal (s := s_ald 0 280) rfl rfl
theorem u_A_run_280 : ex cal k_A_run 280 (x0 :: aQ r :: ls) (st) h = ex cal k_A_run 281 (x0 :: aQ r :: ls) (aQ r :: st) h := ex_st cal (s := s_ald 1 281) rfl rfl
theorem u_A_run_281 : ex cal k_A_run 281 (x0 :: aQ r :: ls) (st) h = ex cal k_A_run 282 (x0 :: aQ r :: ls) (aQ r :: st) h := ex_st cal (s := s_ald 1 282) rfl rfl
theorem u_A_run_282 : ex cal k_A_run 282 (ls) (aQ (some a) :: st) h = gO h a 1 (ex cal k_A_run 285 (ls) (gf h a 1 :: st) h) := e_gf cal rfl
theorem u_A_run_285 : ex cal k_A_run 285 (ls) (st) h = ex cal k_A_run 286 (ls) (aI 0 :: st) h := e_push cal rfl
theorem u_A_run_286 : ex cal k_A_run 286 (x0 :: x1 :: x2 :: x3 :: aI v :: ls) (st) h = ex cal k_A_run 288 (x0 :: x1 :: x2 :: x3 :: aI v :: ls) (aI v :: st) h := ex_st cal (s := s_ild 4 288) rfl rfl
theorem u_A_run_288 : ex cal k_A_run 288 (x0 :: x1 :: x2 :: x3 :: x4 :: x5 :: x6 :: x7 :: x8 :: aI v :: ls) (st) h = ex cal k_A_run 290 (x0 :: x1 :: x2 :: x3 :: x4 :: x5 :: x6 :: x7 :: x8 :: aI v :: ls) (aI v :: st) h := ex_st cal (s := s_ild 9 290) rfl rfl
theorem u_A_run_290 (hl : Nat.ble st.length 4 = true) : ex cal k_A_run 290 (ls) (aI z5 :: aI z4 :: aI z3 :: aI z2 :: aQ r1 :: aQ r0 :: st) h = kk cal k_A_run 293 ls st (cal M_A_run [aQ r0, aQ r1, aI z2, aI z3, aI z4, aI z5] h) := e_call cal (as := [aI z5, aI z4, aI z3, aI z2, aQ r1, aQ r0]) rfl rfl (Nat.le_of_ble_eq_true hl)
theorem u_A_run_293 : ex cal k_A_run 293 (ls) (aI j :: aI i :: st) h = ex cal k_A_run 294 (ls) (aI (i - j) :: st) h := e_bin cal rfl
theorem u_A_run_294 : ex cal k_A_run 294 (ls) ([aI v]) h = some (some (aI v), h) := e_ret1 cal rfl
theorem u_A_run_295 : ex cal k_A_run 295 (aQ r :: ls) (st) h = ex cal k_A_run 296 (aQ r :: ls) (aQ r :: st) h := ex_st cal (s := s_ald 0 296) rfl rfl
theorem u_A_run_296 : ex cal k_A_run 296 (x0 :: aQ r :: ls) (st) h = ex cal k_A_run 297 (x0 :: aQ r :: ls) (aQ r :: st) h := ex_st cal (s := s_ald 1 297) rfl rfl
theorem u_A_run_297 : ex cal k_A_run 297 (x0 :: aQ r :: ls) (st) h = ex cal k_A_run 298 (x0 :: aQ r :: ls) (aQ r :: st) h := ex_st cal (s := s_ald 1 298) rfl rfl
theorem u_A_run_298 : ex cal k_A_run 298 (ls) (aQ (some a) :: st) h = gO h a 1 (ex cal k_A_run 301 (ls) (gf h a 1 :: st) h) := e_gf cal rfl
theorem u_A_run_301 : ex cal k_A_run 301 (ls) (st) h = ex cal k_A_run 302 (ls) (aI 2 :: st) h := e_push cal rfl
theorem u_A_run_302 : ex cal k_A_run 302 (x0 :: x1 :: x2 :: x3 :: aI v :: ls) (st) h = ex cal k_A_run 304 (x0 :: x1 :: x2 :: x3 :: aI v :: ls) (aI v :: st) h := ex_st cal (s := s_ild 4 304) rfl rfl
theorem u_A_run_304 : ex cal k_A_run 304 (x0 :: x1 :: x2 :: x3 :: x4 :: x5 :: x6 :: x7 :: x8 :: aI v :: ls) (st) h = ex cal k_A_run 306 (x0 :: x1 :: x2 :: x3 :: x4 :: x5 :: x6 :: x7 :: x8 :: aI v :: ls) (aI v :: st) h := ex_st cal (s := s_ild 9 306) rfl rfl
theorem u_A_run_306 (hl : Nat.ble st.length 4 = true) : ex cal k_A_run 306 (ls) (aI z5 :: aI z4 :: aI z3 :: aI z2 :: aQ r1 :: aQ r0 :: st) h = kk cal k_A_run 309 ls st (cal M_A_run [aQ r0, aQ r1, aI z2, aI z3, aI z4, aI z5] h) := e_call cal (as := [aI z5, aI z4, aI z3, aI z2, aQ r1, aQ r0]) rfl rfl (Nat.le_of_ble_eq_true hl)
theorem u_A_run_309 : ex cal k_A_run 309 (aQ r :: ls) (st) h = ex cal k_A_run 310 (aQ r :: ls) (aQ r :: st) h := ex_st cal (s := s_ald 0 310) rfl rfl
theorem u_A_run_310 : ex cal k_A_run 310 (x0 :: aQ r :: ls) (st) h = ex cal k_A_run 311 (x0 :: aQ r :: ls) (aQ r :: st) h := ex_st cal (s := s_ald 1 311) rfl rfl
theorem u_A_run_311 : ex cal k_A_run 311 (x0 :: x1 :: x2 :: x3 :: x4 :: x5 :: x6 :: aI v :: ls) (st) h = ex cal k_A_run 313 (x0 :: x1 :: x2 :: x3 :: x4 :: x5 :: x6 :: aI v :: ls) (aI v :: st) h := ex_st cal (s := s_ild 7 313) rfl rfl
theorem u_A_run_313 : ex cal k_A_run 313 (ls) (st) h = ex cal k_A_run 314 (ls) (aI 3 :: st) h := e_push cal rfl
theorem u_A_run_314 : ex cal k_A_run 314 (x0 :: x1 :: x2 :: x3 :: aI v :: ls) (st) h = ex cal k_A_run 316 (x0 :: x1 :: x2 :: x3 :: aI v :: ls) (aI v :: st) h := ex_st cal (s := s_ild 4 316) rfl rfl
theorem u_A_run_316 : ex cal k_A_run 316 (x0 :: x1 :: x2 :: x3 :: x4 :: x5 :: x6 :: x7 :: x8 :: aI v :: ls) (st) h = ex cal k_A_run 318 (x0 :: x1 :: x2 :: x3 :: x4 :: x5 :: x6 :: x7 :: x8 :: aI v :: ls) (aI v :: st) h := ex_st cal (s := s_ild 9 318) rfl rfl
theorem u_A_run_318 (hl : Nat.ble st.length 4 = true) : ex cal k_A_run 318 (ls) (aI z5 :: aI z4 :: aI z3 :: aI z2 :: aQ r1 :: aQ r0 :: st) h = kk cal k_A_run 321 ls st (cal M_A_run [aQ r0, aQ r1, aI z2, aI z3, aI z4, aI z5] h) := e_call cal (as := [aI z5, aI z4, aI z3, aI z2, aQ r1, aQ r0]) rfl rfl (Nat.le_of_ble_eq_true hl)
theorem u_A_run_321 : ex cal k_A_run 321 (ls) (aI j :: aI i :: st) h = ex cal k_A_run 322 (ls) (aI (i - j) :: st) h := e_bin cal rfl
theorem u_A_run_322 : ex cal k_A_run 322 (ls) ([aI v]) h = some (some (aI v), h) := e_ret1 cal rfl
theorem u_A_run_323 : ex cal k_A_run 323 (aQ r :: ls) (st) h = ex cal k_A_run 324 (aQ r :: ls) (aQ r :: st) h := ex_st cal (s := s_ald 0 324) rfl rfl
theorem u_A_run_324 : ex cal k_A_run 324 (x0 :: aQ r :: ls) (st) h = ex cal k_A_run 325 (x0 :: aQ r :: ls) (aQ r :: st) h := ex_st cal (s := s_ald 1 325) rfl rfl
theorem u_A_run_325 : ex cal k_A_run 325 (x0 :: x1 :: x2 :: x3 :: x4 :: x5 :: x6 :: aI v :: ls) (st) h = ex cal k_A_run 327 (x0 :: x1 :: x2 :: x3 :: x4 :: x5 :: x6 :: aI v :: ls) (aI v :: st) h := ex_st cal (s := s_ild 7 327) rfl rfl
theorem u_A_run_327 : ex cal k_A_run 327 (ls) (st) h = ex cal k_A_run 328 (ls) (aI 1 :: st) h := e_push cal rfl
theorem u_A_run_328 : ex cal k_A_run 328 (x0 :: x1 :: x2 :: x3 :: aI v :: ls) (st) h = ex cal k_A_run 330 (x0 :: x1 :: x2 :: x3 :: aI v :: ls) (aI v :: st) h := ex_st cal (s := s_ild 4 330) rfl rfl
theorem u_A_run_330 : ex cal k_A_run 330 (x0 :: x1 :: x2 :: x3 :: x4 :: x5 :: x6 :: x7 :: x8 :: aI v :: ls) (st) h = ex cal k_A_run 332 (x0 :: x1 :: x2 :: x3 :: x4 :: x5 :: x6 :: x7 :: x8 :: aI v :: ls) (aI v :: st) h := ex_st cal (s := s_ild 9 332) rfl rfl
theorem u_A_run_332 (hl : Nat.ble st.length 4 = true) : ex cal k_A_run 332 (ls) (aI z5 :: aI z4 :: aI z3 :: aI z2 :: aQ r1 :: aQ r0 :: st) h = kk cal k_A_run 335 ls st (cal M_A_run [aQ r0, aQ r1, aI z2, aI z3, aI z4, aI z5] h) := e_call cal (as := [aI z5, aI z4, aI z3, aI z2, aQ r1, aQ r0]) rfl rfl (Nat.le_of_ble_eq_true hl)
theorem u_A_run_335 : ex cal k_A_run 335 (x0 :: aQ r :: ls) (st) h = ex cal k_A_run 336 (x0 :: aQ r :: ls) (aQ r :: st) h := ex_st cal (s := s_ald 1 336) rfl rfl
theorem u_A_run_336 : ex cal k_A_run 336 (ls) (aQ (some a) :: st) h = gO h a 1 (ex cal k_A_run 339 (ls) (gf h a 0 :: st) h) := e_gf cal rfl
theorem u_A_run_339 : ex cal k_A_run 339 (ls) (aI j :: aI i :: st) h = ex cal k_A_run 340 (ls) (aI (i + j) :: st) h := e_bin cal rfl
theorem u_A_run_340 : ex cal k_A_run 340 (ls) ([aI v]) h = some (some (aI v), h) := e_ret1 cal rfl
theorem u_A_run_341 : ex cal k_A_run 341 (aQ r :: ls) (st) h = ex cal k_A_run 342 (aQ r :: ls) (aQ r :: st) h := ex_st cal (s := s_ald 0 342) rfl rfl
theorem u_A_run_342 : ex cal k_A_run 342 (x0 :: aQ r :: ls) (st) h = ex cal k_A_run 343 (x0 :: aQ r :: ls) (aQ r :: st) h := ex_st cal (s := s_ald 1 343) rfl rfl
theorem u_A_run_343 : ex cal k_A_run 343 (x0 :: x1 :: x2 :: x3 :: x4 :: x5 :: x6 :: aI v :: ls) (st) h = ex cal k_A_run 345 (x0 :: x1 :: x2 :: x3 :: x4 :: x5 :: x6 :: aI v :: ls) (aI v :: st) h := ex_st cal (s := s_ild 7 345) rfl rfl
theorem u_A_run_345 : ex cal k_A_run 345 (ls) (st) h = ex cal k_A_run 346 (ls) (aI 0 :: st) h := e_push cal rfl
theorem u_A_run_346 : ex cal k_A_run 346 (x0 :: x1 :: x2 :: x3 :: aI v :: ls) (st) h = ex cal k_A_run 348 (x0 :: x1 :: x2 :: x3 :: aI v :: ls) (aI v :: st) h := ex_st cal (s := s_ild 4 348) rfl rfl
theorem u_A_run_348 : ex cal k_A_run 348 (x0 :: aQ r :: ls) (st) h = ex cal k_A_run 349 (x0 :: aQ r :: ls) (aQ r :: st) h := ex_st cal (s := s_ald 1 349) rfl rfl
theorem u_A_run_349 : ex cal k_A_run 349 (ls) (aQ (some a) :: st) h = gO h a 1 (ex cal k_A_run 352 (ls) (gf h a 3 :: st) h) := e_gf cal rfl
theorem u_A_run_352 : ex cal k_A_run 352 (ls) (aI j :: aI i :: st) h = ex cal k_A_run 353 (ls) (aI (i - j) :: st) h := e_bin cal rfl
theorem u_A_run_353 : ex cal k_A_run 353 (x0 :: x1 :: x2 :: x3 :: x4 :: x5 :: x6 :: x7 :: x8 :: aI v :: ls) (st) h = ex cal k_A_run 355 (x0 :: x1 :: x2 :: x3 :: x4 :: x5 :: x6 :: x7 :: x8 :: aI v :: ls) (aI v :: st) h := ex_st cal (s := s_ild 9 355) rfl rfl
theorem u_A_run_355 (hl : Nat.ble st.length 4 = true) : ex cal k_A_run 355 (ls) (aI z5 :: aI z4 :: aI z3 :: aI z2 :: aQ r1 :: aQ r0 :: st) h = kk cal k_A_run 358 ls st (cal M_A_run [aQ r0, aQ r1, aI z2, aI z3, aI z4, aI z5] h) := e_call cal (as := [aI z5, aI z4, aI z3, aI z2, aQ r1, aQ r0]) rfl rfl (Nat.le_of_ble_eq_true hl)
theorem u_A_run_358 : ex cal k_A_run 358 (ls) ([aI v]) h = some (some (aI v), h) := e_ret1 cal rfl
theorem u_A_run_359 : ex cal k_A_run 359 (ls) (st) h = ex cal k_A_run 360 (ls) (aI 0 :: st) h := e_push cal rfl
theorem u_A_run_360 : ex cal k_A_run 360 (ls) ([aI v]) h = some (some (aI v), h) := e_ret1 cal rfl
theorem n_A_run (d : Nat) : ev (d + 1) M_A_run [aQ r0, aQ r1, aI z2, aI z3, aI z4, aI z5] h = ex (ev d) k_A_run 0 [aQ r0, aQ r1, aI z2, aI z3, aI z4, aI z5, aU, aU, aU, aU] [] h := rfl
theorem u_A_kindWithBody_0 : ex cal k_A_kindWithBody 0 (aI v :: ls) (st) h = ex cal k_A_kindWithBody 1 (aI v :: ls) (aI v :: st) h := ex_st cal (s := s_ild 0 1) rfl rfl
theorem u_A_kindWithBody_1 (hx : aNl x1 = true) : ex cal k_A_kindWithBody 1 (x0 :: x1 :: y :: ls) (aI v :: st) h = ex cal k_A_kindWithBody 2 (x0 :: x1 :: aI v :: ls) (st) h := e_ist (ls := x0 :: x1 :: y :: ls) (k := 2) rfl hx (by simp only [List.length_cons]; omega)
theorem u_A_kindWithBody_2 : ex cal k_A_kindWithBody 2 (ls) (st) h = ex cal k_A_kindWithBody 3 (ls) (aI 0 :: st) h := e_push cal rfl
theorem u_A_kindWithBody_3 (hx : aNl x2 = true) : ex cal k_A_kindWithBody 3 (x0 :: x1 :: x2 :: y :: ls) (aI v :: st) h = ex cal k_A_kindWithBody 4 (x0 :: x1 :: x2 :: aI v :: ls) (st) h := e_ist (ls := x0 :: x1 :: x2 :: y :: ls) (k := 3) rfl hx (by simp only [List.length_cons]; omega)
theorem u_A_kindWithBody_4 : ex cal k_A_kindWithBody 4 (x0 :: x1 :: x2 :: aI v :: ls) (st) h = ex cal k_A_kindWithBody 5 (x0 :: x1 :: x2 :: aI v :: ls) (aI v :: st) h := ex_st cal (s := s_ild 3 5) rfl rfl
theorem u_A_kindWithBody_5 : ex cal k_A_kindWithBody 5 (ls) (st) h = ex cal k_A_kindWithBody 7 (ls) (aI 6 :: st) h := e_push cal rfl
theorem u_A_kindWithBody_7 : ex cal k_A_kindWithBody 7 (ls) (aI j :: aI i :: st) h = if wr i < wr j then ex cal k_A_kindWithBody 10 (ls) (st) h else ex cal k_A_kindWithBody 46 (ls) (st) h := e_icge cal rfl
theorem u_A_kindWithBody_10 : ex cal k_A_kindWithBody 10 (x0 :: x1 :: aI v :: ls) (st) h = ex cal k_A_kindWithBody 11 (x0 :: x1 :: aI v :: ls) (aI v :: st) h := ex_st cal (s := s_ild 2 11) rfl rfl
theorem u_A_kindWithBody_11 : ex cal k_A_kindWithBody 11 (ls) (aI i :: st) h = if wr i < 0 then ex cal k_A_kindWithBody 46 (ls) (st) h else ex cal k_A_kindWithBody 14 (ls) (st) h := e_iflt cal rfl
theorem u_A_kindWithBody_14 : ex cal k_A_kindWithBody 14 (x0 :: x1 :: aI v :: ls) (st) h = ex cal k_A_kindWithBody 15 (x0 :: x1 :: aI v :: ls) (aI v :: st) h := ex_st cal (s := s_ild 2 15) rfl rfl
theorem u_A_kindWithBody_15 : ex cal k_A_kindWithBody 15 (ls) (st) h = ex cal k_A_kindWithBody 17 (ls) (aI 6 :: st) h := e_push cal rfl
theorem u_A_kindWithBody_17 : ex cal k_A_kindWithBody 17 (ls) (aI j :: aI i :: st) h = if wr i < wr j then ex cal k_A_kindWithBody 20 (ls) (st) h else ex cal k_A_kindWithBody 46 (ls) (st) h := e_icge cal rfl
theorem u_A_kindWithBody_20 : ex cal k_A_kindWithBody 20 (ls) (st) h = ex cal k_A_kindWithBody 23 (ls) (aQ (some 2) :: st) h := e_push cal rfl
theorem u_A_kindWithBody_23 : ex cal k_A_kindWithBody 23 (x0 :: x1 :: aI v :: ls) (st) h = ex cal k_A_kindWithBody 24 (x0 :: x1 :: aI v :: ls) (aI v :: st) h := ex_st cal (s := s_ild 2 24) rfl rfl
theorem u_A_kindWithBody_24 : ex cal k_A_kindWithBody 24 (ls) (st) h = ex cal k_A_kindWithBody 25 (ls) (aI 4 :: st) h := e_push cal rfl
theorem u_A_kindWithBody_25 : ex cal k_A_kindWithBody 25 (ls) (aI j :: aI i :: st) h = ex cal k_A_kindWithBody 26 (ls) (aI (i * j) :: st) h := e_bin cal rfl
theorem u_A_kindWithBody_26 : ex cal k_A_kindWithBody 26 (x0 :: aI v :: ls) (st) h = ex cal k_A_kindWithBody 27 (x0 :: aI v :: ls) (aI v :: st) h := ex_st cal (s := s_ild 1 27) rfl rfl
theorem u_A_kindWithBody_27 : ex cal k_A_kindWithBody 27 (ls) (aI j :: aI i :: st) h = ex cal k_A_kindWithBody 28 (ls) (aI (i + j) :: st) h := e_bin cal rfl
theorem u_A_kindWithBody_28 : ex cal k_A_kindWithBody 28 (ls) (aI i :: aQ (some a) :: st) h = gA h a i (ex cal k_A_kindWithBody 29 (ls) (aI (ai h a (wr i)) :: st) h) := e_ia cal rfl
theorem u_A_kindWithBody_29 : ex cal k_A_kindWithBody 29 (ls) (aI i :: st) h = if wr i = 0 then ex cal k_A_kindWithBody 34 (ls) (st) h else ex cal k_A_kindWithBody 32 (ls) (st) h := e_ifeq cal rfl
theorem u_A_kindWithBody_32 : ex cal k_A_kindWithBody 32 (x0 :: x1 :: aI v :: ls) (st) h = ex cal k_A_kindWithBody 33 (x0 :: x1 :: aI v :: ls) (aI v :: st) h := ex_st cal (s := s_ild 2 33) rfl rfl
theorem u_A_kindWithBody_33 : ex cal k_A_kindWithBody 33 (ls) ([aI v]) h = some (some (aI v), h) := e_ret1 cal rfl
theorem u_A_kindWithBody_34 : ex cal k_A_kindWithBody 34 (ls) (st) h = ex cal k_A_kindWithBody 37 (ls) (aQ (some 1) :: st) h := e_push cal rfl
theorem u_A_kindWithBody_37 : ex cal k_A_kindWithBody 37 (x0 :: x1 :: aI v :: ls) (st) h = ex cal k_A_kindWithBody 38 (x0 :: x1 :: aI v :: ls) (aI v :: st) h := ex_st cal (s := s_ild 2 38) rfl rfl
theorem u_A_kindWithBody_38 : ex cal k_A_kindWithBody 38 (ls) (aI i :: aQ (some a) :: st) h = gA h a i (ex cal k_A_kindWithBody 39 (ls) (aI (ai h a (wr i)) :: st) h) := e_ia cal rfl
theorem u_A_kindWithBody_39 (hx : aNl x1 = true) : ex cal k_A_kindWithBody 39 (x0 :: x1 :: y :: ls) (aI v :: st) h = ex cal k_A_kindWithBody 40 (x0 :: x1 :: aI v :: ls) (st) h := e_ist (ls := x0 :: x1 :: y :: ls) (k := 2) rfl hx (by simp only [List.length_cons]; omega)
theorem u_A_kindWithBody_40 (hx : aNl x2 = true) : ex cal k_A_kindWithBody 40 (x0 :: x1 :: x2 :: aI v :: ls) (st) h = ex cal k_A_kindWithBody 43 (x0 :: x1 :: x2 :: aI (v + 1) :: ls) (st) h := e_inc (ls := x0 :: x1 :: x2 :: aI v :: ls) (k := 3) rfl rfl hx
theorem u_A_kindWithBody_43 : ex cal k_A_kindWithBody 43 (ls) (st) h = ex cal k_A_kindWithBody 4 (ls) (st) h := ex_st cal (s := s_go 4) rfl rfl
theorem u_A_kindWithBody_46 : ex cal k_A_kindWithBody 46 (ls) (st) h = ex cal k_A_kindWithBody 47 (ls) (aI (-1) :: st) h := e_push cal rfl
theorem u_A_kindWithBody_47 : ex cal k_A_kindWithBody 47 (ls) ([aI v]) h = some (some (aI v), h) := e_ret1 cal rfl
theorem n_A_kindWithBody (d : Nat) : ev (d + 1) M_A_kindWithBody [aI z0, aI z1] h = ex (ev d) k_A_kindWithBody 0 [aI z0, aI z1, aU, aU] [] h := rfl
theorem u_A_begin_0 : ex cal k_A_begin 0 (aQ r :: ls) (st) h = ex cal k_A_begin 1 (aQ r :: ls) (aQ r :: st) h := ex_st cal (s := s_ald 0 1) rfl rfl
theorem u_A_begin_1 : ex cal k_A_begin 1 (ls) (aQ (some a) :: st) h = gO h a 0 (ex cal k_A_begin 4 (ls) (gf h a 1 :: st) h) := e_gf cal rfl
theorem u_A_begin_4 : ex cal k_A_begin 4 (ls) (st) h = ex cal k_A_begin 6 (ls) (aI 50 :: st) h := e_push cal rfl
theorem u_A_begin_6 : ex cal k_A_begin 6 (ls) (aI j :: aI i :: st) h = if wr i < wr j then ex cal k_A_begin 9 (ls) (st) h else ex cal k_A_begin 29 (ls) (st) h := e_icge cal rfl
theorem u_A_begin_9 : ex cal k_A_begin 9 (aQ r :: ls) (st) h = ex cal k_A_begin 10 (aQ r :: ls) (aQ r :: st) h := ex_st cal (s := s_ald 0 10) rfl rfl
theorem u_A_begin_10 : ex cal k_A_begin 10 (ls) (aQ (some a) :: st) h = gO h a 0 (ex cal k_A_begin 13 (ls) (gf h a 0 :: st) h) := e_gf cal rfl
theorem u_A_begin_13 : ex cal k_A_begin 13 (aQ r :: ls) (st) h = ex cal k_A_begin 14 (aQ r :: ls) (aQ r :: st) h := ex_st cal (s := s_ald 0 14) rfl rfl
theorem u_A_begin_14 : ex cal k_A_begin 14 (ls) (aQ (some a) :: st) h = gO h a 0 (ex cal k_A_begin 17 (ls) (gf h a 1 :: st) h) := e_gf cal rfl
theorem u_A_begin_17 : ex cal k_A_begin 17 (x0 :: aI v :: ls) (st) h = ex cal k_A_begin 18 (x0 :: aI v :: ls) (aI v :: st) h := ex_st cal (s := s_ild 1 18) rfl rfl
theorem u_A_begin_18 (h3 : 3 ≤ a) : ex cal k_A_begin 18 (ls) (aI v :: aI i :: aQ (some a) :: st) h = gA h a i (ex cal k_A_begin 19 (ls) (st) (sa h a (upf (ai h a) (wr i) v))) := e_ias cal rfl h3
theorem u_A_begin_19 : ex cal k_A_begin 19 (aQ r :: ls) (st) h = ex cal k_A_begin 20 (aQ r :: ls) (aQ r :: st) h := ex_st cal (s := s_ald 0 20) rfl rfl
theorem u_A_begin_20 (hx : aNl y = true) : ex cal k_A_begin 20 (ls) (y :: st) h = ex cal k_A_begin 21 (ls) (y :: y :: st) h := e_dup rfl hx
theorem u_A_begin_21 : ex cal k_A_begin 21 (ls) (aQ (some a) :: st) h = gO h a 0 (ex cal k_A_begin 24 (ls) (gf h a 1 :: st) h) := e_gf cal rfl
theorem u_A_begin_24 : ex cal k_A_begin 24 (ls) (st) h = ex cal k_A_begin 25 (ls) (aI 1 :: st) h := e_push cal rfl
theorem u_A_begin_25 : ex cal k_A_begin 25 (ls) (aI j :: aI i :: st) h = ex cal k_A_begin 26 (ls) (aI (i + j) :: st) h := e_bin cal rfl
theorem u_A_begin_26 : ex cal k_A_begin 26 (ls) (aI v :: aQ (some a) :: st) h = gO h a 0 (ex cal k_A_begin 29 (ls) (st) (pf h a 1 (aI v))) := e_pf1 rfl rfl
theorem u_A_begin_29 : ex cal k_A_begin 29 (ls) ([]) h = some (none, h) := e_ret0 cal rfl
theorem n_A_begin (d : Nat) : ev (d + 1) M_A_begin [aQ (some a), aI z0] h = ex (ev d) k_A_begin 0 [aQ (some a), aI z0] [] h := rfl
theorem u_Ch_init_0 : ex cal k_Ch_init 0 (aQ r :: ls) (st) h = ex cal k_Ch_init 1 (aQ r :: ls) (aQ r :: st) h := ex_st cal (s := s_ald 0 1) rfl rfl
theorem u_Ch_init_1 (hl : Nat.ble st.length 4 = true) : ex cal k_Ch_init 1 (ls) (aQ (some a) :: st) h = ex cal k_Ch_init 4 (ls) (st) h := e_oi cal rfl (Nat.le_of_ble_eq_true hl)
theorem u_Ch_init_4 : ex cal k_Ch_init 4 (aQ r :: ls) (st) h = ex cal k_Ch_init 5 (aQ r :: ls) (aQ r :: st) h := ex_st cal (s := s_ald 0 5) rfl rfl
theorem u_Ch_init_5 : ex cal k_Ch_init 5 (x0 :: aQ r :: ls) (st) h = ex cal k_Ch_init 6 (x0 :: aQ r :: ls) (aQ r :: st) h := ex_st cal (s := s_ald 1 6) rfl rfl
theorem u_Ch_init_6 : ex cal k_Ch_init 6 (ls) (aQ (some a) :: st) h = gO h a 7 (ex cal k_Ch_init 9 (ls) (gf h a 8 :: st) h) := e_gf cal rfl
theorem u_Ch_init_9 : ex cal k_Ch_init 9 (ls) (aI v :: aQ (some a) :: st) h = gO h a 1 (ex cal k_Ch_init 12 (ls) (st) (pf h a 0 (aI v))) := e_pf1 rfl rfl
theorem u_Ch_init_12 : ex cal k_Ch_init 12 (aQ r :: ls) (st) h = ex cal k_Ch_init 13 (aQ r :: ls) (aQ r :: st) h := ex_st cal (s := s_ald 0 13) rfl rfl
theorem u_Ch_init_13 : ex cal k_Ch_init 13 (x0 :: x1 :: aI v :: ls) (st) h = ex cal k_Ch_init 14 (x0 :: x1 :: aI v :: ls) (aI v :: st) h := ex_st cal (s := s_ild 2 14) rfl rfl
theorem u_Ch_init_14 : ex cal k_Ch_init 14 (ls) (aI v :: aQ (some a) :: st) h = gO h a 1 (ex cal k_Ch_init 17 (ls) (st) (pf h a 1 (aI v))) := e_pf1 rfl rfl
theorem u_Ch_init_17 : ex cal k_Ch_init 17 (aQ r :: ls) (st) h = ex cal k_Ch_init 18 (aQ r :: ls) (aQ r :: st) h := ex_st cal (s := s_ald 0 18) rfl rfl
theorem u_Ch_init_18 : ex cal k_Ch_init 18 (x0 :: x1 :: x2 :: aI v :: ls) (st) h = ex cal k_Ch_init 19 (x0 :: x1 :: x2 :: aI v :: ls) (aI v :: st) h := ex_st cal (s := s_ild 3 19) rfl rfl
theorem u_Ch_init_19 : ex cal k_Ch_init 19 (ls) (aI v :: aQ (some a) :: st) h = gO h a 1 (ex cal k_Ch_init 22 (ls) (st) (pf h a 2 (aI v))) := e_pf1 rfl rfl
theorem u_Ch_init_22 : ex cal k_Ch_init 22 (aQ r :: ls) (st) h = ex cal k_Ch_init 23 (aQ r :: ls) (aQ r :: st) h := ex_st cal (s := s_ald 0 23) rfl rfl
theorem u_Ch_init_23 : ex cal k_Ch_init 23 (x0 :: x1 :: x2 :: x3 :: aI v :: ls) (st) h = ex cal k_Ch_init 25 (x0 :: x1 :: x2 :: x3 :: aI v :: ls) (aI v :: st) h := ex_st cal (s := s_ild 4 25) rfl rfl
theorem u_Ch_init_25 : ex cal k_Ch_init 25 (ls) (aI v :: aQ (some a) :: st) h = gO h a 1 (ex cal k_Ch_init 28 (ls) (st) (pf h a 3 (aI v))) := e_pf1 rfl rfl
theorem u_Ch_init_28 : ex cal k_Ch_init 28 (aQ r :: ls) (st) h = ex cal k_Ch_init 29 (aQ r :: ls) (aQ r :: st) h := ex_st cal (s := s_ald 0 29) rfl rfl
theorem u_Ch_init_29 : ex cal k_Ch_init 29 (x0 :: x1 :: x2 :: x3 :: x4 :: aI v :: ls) (st) h = ex cal k_Ch_init 31 (x0 :: x1 :: x2 :: x3 :: x4 :: aI v :: ls) (aI v :: st) h := ex_st cal (s := s_ild 5 31) rfl rfl
theorem u_Ch_init_31 : ex cal k_Ch_init 31 (ls) (aI v :: aQ (some a) :: st) h = gO h a 1 (ex cal k_Ch_init 34 (ls) (st) (pf h a 4 (aI v))) := e_pf1 rfl rfl
theorem u_Ch_init_34 : ex cal k_Ch_init 34 (aQ r :: ls) (st) h = ex cal k_Ch_init 35 (aQ r :: ls) (aQ r :: st) h := ex_st cal (s := s_ald 0 35) rfl rfl
theorem u_Ch_init_35 : ex cal k_Ch_init 35 (x0 :: aQ r :: ls) (st) h = ex cal k_Ch_init 36 (x0 :: aQ r :: ls) (aQ r :: st) h := ex_st cal (s := s_ald 1 36) rfl rfl
theorem u_Ch_init_36 : ex cal k_Ch_init 36 (ls) (aQ (some a) :: st) h = gO h a 7 (ex cal k_Ch_init 39 (ls) (gf h a 3 :: st) h) := e_gf cal rfl
theorem u_Ch_init_39 : ex cal k_Ch_init 39 (ls) (aI v :: aQ (some a) :: st) h = gO h a 1 (ex cal k_Ch_init 42 (ls) (st) (pf h a 5 (aI v))) := e_pf1 rfl rfl
theorem u_Ch_init_42 : ex cal k_Ch_init 42 (aQ r :: ls) (st) h = ex cal k_Ch_init 43 (aQ r :: ls) (aQ r :: st) h := ex_st cal (s := s_ald 0 43) rfl rfl
theorem u_Ch_init_43 : ex cal k_Ch_init 43 (x0 :: aQ r :: ls) (st) h = ex cal k_Ch_init 44 (x0 :: aQ r :: ls) (aQ r :: st) h := ex_st cal (s := s_ald 1 44) rfl rfl
theorem u_Ch_init_44 : ex cal k_Ch_init 44 (ls) (aQ (some a) :: st) h = gO h a 7 (ex cal k_Ch_init 47 (ls) (gf h a 7 :: st) h) := e_gf cal rfl
theorem u_Ch_init_47 : ex cal k_Ch_init 47 (x0 :: x1 :: x2 :: aI v :: ls) (st) h = ex cal k_Ch_init 48 (x0 :: x1 :: x2 :: aI v :: ls) (aI v :: st) h := ex_st cal (s := s_ild 3 48) rfl rfl
theorem u_Ch_init_48 : ex cal k_Ch_init 48 (ls) (aI i :: aQ (some a) :: st) h = gR h a 0 i (ex cal k_Ch_init 49 (ls) (aQ (ra h a (wr i)) :: st) h) := e_ra cal rfl
theorem u_Ch_init_49 : ex cal k_Ch_init 49 (ls) (aQ r :: aQ (some a) :: st) h = gO h a 1 (ex cal k_Ch_init 52 (ls) (st) (pf h a 6 (aQ r))) := e_pf1 rfl rfl
theorem u_Ch_init_52 : ex cal k_Ch_init 52 (ls) ([]) h = some (none, h) := e_ret0 cal rfl
theorem n_Ch_init (d : Nat) : ev (d + 1) M_Ch_init [aQ (some a), aQ r0, aI z1, aI z2, aI z3, aI z4] h = ex (ev d) k_Ch_init 0 [aQ (some a), aQ r0, aI z1, aI z2, aI z3, aI z4] [] h := rfl
theorem u_Ch_firstMarks_0 : ex cal k_Ch_firstMarks 0 (aQ r :: ls) (st) h = ex cal k_Ch_firstMarks 1 (aQ r :: ls) (aQ r :: st) h := ex_st cal (s := s_ald 0 1) rfl rfl
theorem u_Ch_firstMarks_1 : ex cal k_Ch_firstMarks 1 (ls) (aQ (some a) :: st) h = gO h a 1 (ex cal k_Ch_firstMarks 4 (ls) (gf h a 1 :: st) h) := e_gf cal rfl
theorem u_Ch_firstMarks_4 : ex cal k_Ch_firstMarks 4 (ls) (st) h = ex cal k_Ch_firstMarks 5 (ls) (aI 3 :: st) h := e_push cal rfl
theorem u_Ch_firstMarks_5 : ex cal k_Ch_firstMarks 5 (ls) (aI j :: aI i :: st) h = if wr i = wr j then ex cal k_Ch_firstMarks 8 (ls) (st) h else ex cal k_Ch_firstMarks 49 (ls) (st) h := e_icne cal rfl
theorem u_Ch_firstMarks_8 : ex cal k_Ch_firstMarks 8 (ls) (st) h = ex cal k_Ch_firstMarks 10 (ls) (aI 6 :: st) h := e_push cal rfl
theorem u_Ch_firstMarks_10 (h1 : 0 ≤ i) (h2 : i ≤ 100000) : ex cal k_Ch_firstMarks 10 (ls) (aI i :: st) h = ex cal k_Ch_firstMarks 12 (ls) (aQ (some (aSz h)) :: st) (aNew h (.inr (.inl (i.toNat, fun _ => 0))) i.toNat) := e_nai cal rfl h1 h2
theorem u_Ch_firstMarks_12 (hx : aNl y = true) : ex cal k_Ch_firstMarks 12 (ls) (y :: st) h = ex cal k_Ch_firstMarks 13 (ls) (y :: y :: st) h := e_dup rfl hx
theorem u_Ch_firstMarks_13 : ex cal k_Ch_firstMarks 13 (ls) (st) h = ex cal k_Ch_firstMarks 14 (ls) (aI 0 :: st) h := e_push cal rfl
theorem u_Ch_firstMarks_14 : ex cal k_Ch_firstMarks 14 (aQ r :: ls) (st) h = ex cal k_Ch_firstMarks 15 (aQ r :: ls) (aQ r :: st) h := ex_st cal (s := s_ald 0 15) rfl rfl
theorem u_Ch_firstMarks_15 : ex cal k_Ch_firstMarks 15 (ls) (aQ (some a) :: st) h = gO h a 1 (ex cal k_Ch_firstMarks 18 (ls) (gf h a 3 :: st) h) := e_gf cal rfl
theorem u_Ch_firstMarks_18 (h3 : 3 ≤ a) : ex cal k_Ch_firstMarks 18 (ls) (aI v :: aI i :: aQ (some a) :: st) h = gA h a i (ex cal k_Ch_firstMarks 19 (ls) (st) (sa h a (upf (ai h a) (wr i) v))) := e_ias cal rfl h3
theorem u_Ch_firstMarks_19 (hx : aNl y = true) : ex cal k_Ch_firstMarks 19 (ls) (y :: st) h = ex cal k_Ch_firstMarks 20 (ls) (y :: y :: st) h := e_dup rfl hx
theorem u_Ch_firstMarks_20 : ex cal k_Ch_firstMarks 20 (ls) (st) h = ex cal k_Ch_firstMarks 21 (ls) (aI 1 :: st) h := e_push cal rfl
theorem u_Ch_firstMarks_21 : ex cal k_Ch_firstMarks 21 (aQ r :: ls) (st) h = ex cal k_Ch_firstMarks 22 (aQ r :: ls) (aQ r :: st) h := ex_st cal (s := s_ald 0 22) rfl rfl
theorem u_Ch_firstMarks_22 : ex cal k_Ch_firstMarks 22 (ls) (aQ (some a) :: st) h = gO h a 1 (ex cal k_Ch_firstMarks 25 (ls) (gf h a 5 :: st) h) := e_gf cal rfl
theorem u_Ch_firstMarks_25 (h3 : 3 ≤ a) : ex cal k_Ch_firstMarks 25 (ls) (aI v :: aI i :: aQ (some a) :: st) h = gA h a i (ex cal k_Ch_firstMarks 26 (ls) (st) (sa h a (upf (ai h a) (wr i) v))) := e_ias cal rfl h3
theorem u_Ch_firstMarks_26 (hx : aNl y = true) : ex cal k_Ch_firstMarks 26 (ls) (y :: st) h = ex cal k_Ch_firstMarks 27 (ls) (y :: y :: st) h := e_dup rfl hx
theorem u_Ch_firstMarks_27 : ex cal k_Ch_firstMarks 27 (ls) (st) h = ex cal k_Ch_firstMarks 28 (ls) (aI 2 :: st) h := e_push cal rfl
theorem u_Ch_firstMarks_28 : ex cal k_Ch_firstMarks 28 (ls) (st) h = ex cal k_Ch_firstMarks 29 (ls) (aI 5 :: st) h := e_push cal rfl
theorem u_Ch_firstMarks_29 (h3 : 3 ≤ a) : ex cal k_Ch_firstMarks 29 (ls) (aI v :: aI i :: aQ (some a) :: st) h = gA h a i (ex cal k_Ch_firstMarks 30 (ls) (st) (sa h a (upf (ai h a) (wr i) v))) := e_ias cal rfl h3
theorem u_Ch_firstMarks_30 (hx : aNl y = true) : ex cal k_Ch_firstMarks 30 (ls) (y :: st) h = ex cal k_Ch_firstMarks 31 (ls) (y :: y :: st) h := e_dup rfl hx
theorem u_Ch_firstMarks_31 : ex cal k_Ch_firstMarks 31 (ls) (st) h = ex cal k_Ch_firstMarks 32 (ls) (aI 3 :: st) h := e_push cal rfl
theorem u_Ch_firstMarks_32 : ex cal k_Ch_firstMarks 32 (aQ r :: ls) (st) h = ex cal k_Ch_firstMarks 33 (aQ r :: ls) (aQ r :: st) h := ex_st cal (s := s_ald 0 33) rfl rfl
theorem u_Ch_firstMarks_33 : ex cal k_Ch_firstMarks 33 (ls) (aQ (some a) :: st) h = gO h a 1 (ex cal k_Ch_firstMarks 36 (ls) (gf h a 4 :: st) h) := e_gf cal rfl
theorem u_Ch_firstMarks_36 (h3 : 3 ≤ a) : ex cal k_Ch_firstMarks 36 (ls) (aI v :: aI i :: aQ (some a) :: st) h = gA h a i (ex cal k_Ch_firstMarks 37 (ls) (st) (sa h a (upf (ai h a) (wr i) v))) := e_ias cal rfl h3
theorem u_Ch_firstMarks_37 (hx : aNl y = true) : ex cal k_Ch_firstMarks 37 (ls) (y :: st) h = ex cal k_Ch_firstMarks 38 (ls) (y :: y :: st) h := e_dup rfl hx
theorem u_Ch_firstMarks_38 : ex cal k_Ch_firstMarks 38 (ls) (st) h = ex cal k_Ch_firstMarks 39 (ls) (aI 4 :: st) h := e_push cal rfl
theorem u_Ch_firstMarks_39 : ex cal k_Ch_firstMarks 39 (aQ r :: ls) (st) h = ex cal k_Ch_firstMarks 40 (aQ r :: ls) (aQ r :: st) h := ex_st cal (s := s_ald 0 40) rfl rfl
theorem u_Ch_firstMarks_40 : ex cal k_Ch_firstMarks 40 (ls) (aQ (some a) :: st) h = gO h a 1 (ex cal k_Ch_firstMarks 43 (ls) (gf h a 5 :: st) h) := e_gf cal rfl
theorem u_Ch_firstMarks_43 (h3 : 3 ≤ a) : ex cal k_Ch_firstMarks 43 (ls) (aI v :: aI i :: aQ (some a) :: st) h = gA h a i (ex cal k_Ch_firstMarks 44 (ls) (st) (sa h a (upf (ai h a) (wr i) v))) := e_ias cal rfl h3
theorem u_Ch_firstMarks_44 (hx : aNl y = true) : ex cal k_Ch_firstMarks 44 (ls) (y :: st) h = ex cal k_Ch_firstMarks 45 (ls) (y :: y :: st) h := e_dup rfl hx
theorem u_Ch_firstMarks_45 : ex cal k_Ch_firstMarks 45 (ls) (st) h = ex cal k_Ch_firstMarks 46 (ls) (aI 5 :: st) h := e_push cal rfl
theorem u_Ch_firstMarks_46 : ex cal k_Ch_firstMarks 46 (ls) (st) h = ex cal k_Ch_firstMarks 47 (ls) (aI 5 :: st) h := e_push cal rfl
theorem u_Ch_firstMarks_47 (h3 : 3 ≤ a) : ex cal k_Ch_firstMarks 47 (ls) (aI v :: aI i :: aQ (some a) :: st) h = gA h a i (ex cal k_Ch_firstMarks 48 (ls) (st) (sa h a (upf (ai h a) (wr i) v))) := e_ias cal rfl h3
theorem u_Ch_firstMarks_48 : ex cal k_Ch_firstMarks 48 (ls) ([aQ r]) h = some (some (aQ r), h) := e_ret3 cal rfl
theorem u_Ch_firstMarks_49 : ex cal k_Ch_firstMarks 49 (ls) (st) h = ex cal k_Ch_firstMarks 50 (ls) (aI 3 :: st) h := e_push cal rfl
theorem u_Ch_firstMarks_50 (h1 : 0 ≤ i) (h2 : i ≤ 100000) : ex cal k_Ch_firstMarks 50 (ls) (aI i :: st) h = ex cal k_Ch_firstMarks 52 (ls) (aQ (some (aSz h)) :: st) (aNew h (.inr (.inl (i.toNat, fun _ => 0))) i.toNat) := e_nai cal rfl h1 h2
theorem u_Ch_firstMarks_52 (hx : aNl y = true) : ex cal k_Ch_firstMarks 52 (ls) (y :: st) h = ex cal k_Ch_firstMarks 53 (ls) (y :: y :: st) h := e_dup rfl hx
theorem u_Ch_firstMarks_53 : ex cal k_Ch_firstMarks 53 (ls) (st) h = ex cal k_Ch_firstMarks 54 (ls) (aI 0 :: st) h := e_push cal rfl
theorem u_Ch_firstMarks_54 : ex cal k_Ch_firstMarks 54 (aQ r :: ls) (st) h = ex cal k_Ch_firstMarks 55 (aQ r :: ls) (aQ r :: st) h := ex_st cal (s := s_ald 0 55) rfl rfl
theorem u_Ch_firstMarks_55 : ex cal k_Ch_firstMarks 55 (ls) (aQ (some a) :: st) h = gO h a 1 (ex cal k_Ch_firstMarks 58 (ls) (gf h a 3 :: st) h) := e_gf cal rfl
theorem u_Ch_firstMarks_58 (h3 : 3 ≤ a) : ex cal k_Ch_firstMarks 58 (ls) (aI v :: aI i :: aQ (some a) :: st) h = gA h a i (ex cal k_Ch_firstMarks 59 (ls) (st) (sa h a (upf (ai h a) (wr i) v))) := e_ias cal rfl h3
theorem u_Ch_firstMarks_59 (hx : aNl y = true) : ex cal k_Ch_firstMarks 59 (ls) (y :: st) h = ex cal k_Ch_firstMarks 60 (ls) (y :: y :: st) h := e_dup rfl hx
theorem u_Ch_firstMarks_60 : ex cal k_Ch_firstMarks 60 (ls) (st) h = ex cal k_Ch_firstMarks 61 (ls) (aI 1 :: st) h := e_push cal rfl
theorem u_Ch_firstMarks_61 : ex cal k_Ch_firstMarks 61 (aQ r :: ls) (st) h = ex cal k_Ch_firstMarks 62 (aQ r :: ls) (aQ r :: st) h := ex_st cal (s := s_ald 0 62) rfl rfl
theorem u_Ch_firstMarks_62 : ex cal k_Ch_firstMarks 62 (ls) (aQ (some a) :: st) h = gO h a 1 (ex cal k_Ch_firstMarks 65 (ls) (gf h a 5 :: st) h) := e_gf cal rfl
theorem u_Ch_firstMarks_65 (h3 : 3 ≤ a) : ex cal k_Ch_firstMarks 65 (ls) (aI v :: aI i :: aQ (some a) :: st) h = gA h a i (ex cal k_Ch_firstMarks 66 (ls) (st) (sa h a (upf (ai h a) (wr i) v))) := e_ias cal rfl h3
theorem u_Ch_firstMarks_66 (hx : aNl y = true) : ex cal k_Ch_firstMarks 66 (ls) (y :: st) h = ex cal k_Ch_firstMarks 67 (ls) (y :: y :: st) h := e_dup rfl hx
theorem u_Ch_firstMarks_67 : ex cal k_Ch_firstMarks 67 (ls) (st) h = ex cal k_Ch_firstMarks 68 (ls) (aI 2 :: st) h := e_push cal rfl
theorem u_Ch_firstMarks_68 : ex cal k_Ch_firstMarks 68 (aQ r :: ls) (st) h = ex cal k_Ch_firstMarks 69 (aQ r :: ls) (aQ r :: st) h := ex_st cal (s := s_ald 0 69) rfl rfl
theorem u_Ch_firstMarks_69 : ex cal k_Ch_firstMarks 69 (ls) (aQ (some a) :: st) h = gO h a 1 (ex cal k_Ch_firstMarks 72 (ls) (gf h a 1 :: st) h) := e_gf cal rfl
theorem u_Ch_firstMarks_72 : ex cal k_Ch_firstMarks 72 (ls) (st) h = ex cal k_Ch_firstMarks 73 (ls) (aI 2 :: st) h := e_push cal rfl
theorem u_Ch_firstMarks_73 : ex cal k_Ch_firstMarks 73 (ls) (aI j :: aI i :: st) h = if wr i = wr j then ex cal k_Ch_firstMarks 76 (ls) (st) h else ex cal k_Ch_firstMarks 80 (ls) (st) h := e_icne cal rfl
theorem u_Ch_firstMarks_76 : ex cal k_Ch_firstMarks 76 (ls) (st) h = ex cal k_Ch_firstMarks 77 (ls) (aI 2 :: st) h := e_push cal rfl
theorem u_Ch_firstMarks_77 : ex cal k_Ch_firstMarks 77 (ls) (st) h = ex cal k_Ch_firstMarks 82 (ls) (st) h := ex_st cal (s := s_go 82) rfl rfl
theorem u_Ch_firstMarks_80 : ex cal k_Ch_firstMarks 80 (ls) (st) h = ex cal k_Ch_firstMarks 82 (ls) (aI 8 :: st) h := e_push cal rfl
theorem u_Ch_firstMarks_82 (h3 : 3 ≤ a) : ex cal k_Ch_firstMarks 82 (ls) (aI v :: aI i :: aQ (some a) :: st) h = gA h a i (ex cal k_Ch_firstMarks 83 (ls) (st) (sa h a (upf (ai h a) (wr i) v))) := e_ias cal rfl h3
theorem u_Ch_firstMarks_83 : ex cal k_Ch_firstMarks 83 (ls) ([aQ r]) h = some (some (aQ r), h) := e_ret3 cal rfl
theorem n_Ch_firstMarks (d : Nat) : ev (d + 1) M_Ch_firstMarks [aQ (some a)] h = ex (ev d) k_Ch_firstMarks 0 [aQ (some a)] [] h := rfl
theorem u_Ch_shareOf_0 : ex cal k_Ch_shareOf 0 (aQ r :: ls) (st) h = ex cal k_Ch_shareOf 1 (aQ r :: ls) (aQ r :: st) h := ex_st cal (s := s_ald 0 1) rfl rfl
theorem u_Ch_shareOf_1 : ex cal k_Ch_shareOf 1 (ls) (aQ (some a) :: st) h = gO h a 1 (ex cal k_Ch_shareOf 4 (ls) (gf h a 1 :: st) h) := e_gf cal rfl
theorem u_Ch_shareOf_4 : ex cal k_Ch_shareOf 4 (ls) (st) h = ex cal k_Ch_shareOf 5 (ls) (aI 3 :: st) h := e_push cal rfl
theorem u_Ch_shareOf_5 : ex cal k_Ch_shareOf 5 (ls) (aI j :: aI i :: st) h = if wr i = wr j then ex cal k_Ch_shareOf 8 (ls) (st) h else ex cal k_Ch_shareOf 30 (ls) (st) h := e_icne cal rfl
theorem u_Ch_shareOf_8 : ex cal k_Ch_shareOf 8 (aQ r :: ls) (st) h = ex cal k_Ch_shareOf 9 (aQ r :: ls) (aQ r :: st) h := ex_st cal (s := s_ald 0 9) rfl rfl
theorem u_Ch_shareOf_9 : ex cal k_Ch_shareOf 9 (ls) (aQ (some a) :: st) h = gO h a 1 (ex cal k_Ch_shareOf 12 (ls) (gf h a 3 :: st) h) := e_gf cal rfl
theorem u_Ch_shareOf_12 : ex cal k_Ch_shareOf 12 (x0 :: aI v :: ls) (st) h = ex cal k_Ch_shareOf 13 (x0 :: aI v :: ls) (aI v :: st) h := ex_st cal (s := s_ild 1 13) rfl rfl
theorem u_Ch_shareOf_13 : ex cal k_Ch_shareOf 13 (ls) (aI j :: aI i :: st) h = if wr i = wr j then ex cal k_Ch_shareOf 24 (ls) (st) h else ex cal k_Ch_shareOf 16 (ls) (st) h := e_iceq cal rfl
theorem u_Ch_shareOf_16 : ex cal k_Ch_shareOf 16 (aQ r :: ls) (st) h = ex cal k_Ch_shareOf 17 (aQ r :: ls) (aQ r :: st) h := ex_st cal (s := s_ald 0 17) rfl rfl
theorem u_Ch_shareOf_17 : ex cal k_Ch_shareOf 17 (ls) (aQ (some a) :: st) h = gO h a 1 (ex cal k_Ch_shareOf 20 (ls) (gf h a 4 :: st) h) := e_gf cal rfl
theorem u_Ch_shareOf_20 : ex cal k_Ch_shareOf 20 (x0 :: aI v :: ls) (st) h = ex cal k_Ch_shareOf 21 (x0 :: aI v :: ls) (aI v :: st) h := ex_st cal (s := s_ild 1 21) rfl rfl
theorem u_Ch_shareOf_21 : ex cal k_Ch_shareOf 21 (ls) (aI j :: aI i :: st) h = if wr i = wr j then ex cal k_Ch_shareOf 24 (ls) (st) h else ex cal k_Ch_shareOf 28 (ls) (st) h := e_icne cal rfl
theorem u_Ch_shareOf_24 : ex cal k_Ch_shareOf 24 (ls) (st) h = ex cal k_Ch_shareOf 25 (ls) (aI 1 :: st) h := e_push cal rfl
theorem u_Ch_shareOf_25 : ex cal k_Ch_shareOf 25 (ls) (st) h = ex cal k_Ch_shareOf 29 (ls) (st) h := ex_st cal (s := s_go 29) rfl rfl
theorem u_Ch_shareOf_28 : ex cal k_Ch_shareOf 28 (ls) (st) h = ex cal k_Ch_shareOf 29 (ls) (aI 0 :: st) h := e_push cal rfl
theorem u_Ch_shareOf_29 : ex cal k_Ch_shareOf 29 (ls) ([aI v]) h = some (some (aI v), h) := e_ret1 cal rfl
theorem u_Ch_shareOf_30 : ex cal k_Ch_shareOf 30 (aQ r :: ls) (st) h = ex cal k_Ch_shareOf 31 (aQ r :: ls) (aQ r :: st) h := ex_st cal (s := s_ald 0 31) rfl rfl
theorem u_Ch_shareOf_31 : ex cal k_Ch_shareOf 31 (ls) (aQ (some a) :: st) h = gO h a 1 (ex cal k_Ch_shareOf 34 (ls) (gf h a 3 :: st) h) := e_gf cal rfl
theorem u_Ch_shareOf_34 : ex cal k_Ch_shareOf 34 (x0 :: aI v :: ls) (st) h = ex cal k_Ch_shareOf 35 (x0 :: aI v :: ls) (aI v :: st) h := ex_st cal (s := s_ild 1 35) rfl rfl
theorem u_Ch_shareOf_35 : ex cal k_Ch_shareOf 35 (ls) (aI j :: aI i :: st) h = if wr i = wr j then ex cal k_Ch_shareOf 38 (ls) (st) h else ex cal k_Ch_shareOf 42 (ls) (st) h := e_icne cal rfl
theorem u_Ch_shareOf_38 : ex cal k_Ch_shareOf 38 (ls) (st) h = ex cal k_Ch_shareOf 39 (ls) (aI 2 :: st) h := e_push cal rfl
theorem u_Ch_shareOf_39 : ex cal k_Ch_shareOf 39 (ls) (st) h = ex cal k_Ch_shareOf 43 (ls) (st) h := ex_st cal (s := s_go 43) rfl rfl
theorem u_Ch_shareOf_42 : ex cal k_Ch_shareOf 42 (ls) (st) h = ex cal k_Ch_shareOf 43 (ls) (aI 0 :: st) h := e_push cal rfl
theorem u_Ch_shareOf_43 : ex cal k_Ch_shareOf 43 (ls) ([aI v]) h = some (some (aI v), h) := e_ret1 cal rfl
theorem n_Ch_shareOf (d : Nat) : ev (d + 1) M_Ch_shareOf [aQ (some a), aI z0] h = ex (ev d) k_Ch_shareOf 0 [aQ (some a), aI z0] [] h := rfl
theorem u_Kp_init_0 : ex cal k_Kp_init 0 (aQ r :: ls) (st) h = ex cal k_Kp_init 1 (aQ r :: ls) (aQ r :: st) h := ex_st cal (s := s_ald 0 1) rfl rfl
theorem u_Kp_init_1 (hl : Nat.ble st.length 4 = true) : ex cal k_Kp_init 1 (ls) (aQ (some a) :: st) h = ex cal k_Kp_init 4 (ls) (st) h := e_oi cal rfl (Nat.le_of_ble_eq_true hl)
theorem u_Kp_init_4 : ex cal k_Kp_init 4 (aQ r :: ls) (st) h = ex cal k_Kp_init 5 (aQ r :: ls) (aQ r :: st) h := ex_st cal (s := s_ald 0 5) rfl rfl
theorem u_Kp_init_5 : ex cal k_Kp_init 5 (ls) (st) h = ex cal k_Kp_init 8 (ls) (aI 441 :: st) h := e_push cal rfl
theorem u_Kp_init_8 (h1 : 0 ≤ i) (h2 : i ≤ 100000) : ex cal k_Kp_init 8 (ls) (aI i :: st) h = ex cal k_Kp_init 10 (ls) (aQ (some (aSz h)) :: st) (aNew h (.inr (.inl (i.toNat, fun _ => 0))) i.toNat) := e_nai cal rfl h1 h2
theorem u_Kp_init_10 : ex cal k_Kp_init 10 (ls) (aQ r :: aQ (some a) :: st) h = gO h a 2 (ex cal k_Kp_init 13 (ls) (st) (pf h a 0 (aQ r))) := e_pf1 rfl rfl
theorem u_Kp_init_13 : ex cal k_Kp_init 13 (aQ r :: ls) (st) h = ex cal k_Kp_init 14 (aQ r :: ls) (aQ r :: st) h := ex_st cal (s := s_ald 0 14) rfl rfl
theorem u_Kp_init_14 : ex cal k_Kp_init 14 (ls) (st) h = ex cal k_Kp_init 16 (ls) (aI 20 :: st) h := e_push cal rfl
theorem u_Kp_init_16 (h1 : 0 ≤ i) (h2 : i ≤ 100000) : ex cal k_Kp_init 16 (ls) (aI i :: st) h = ex cal k_Kp_init 18 (ls) (aQ (some (aSz h)) :: st) (aNew h (.inr (.inl (i.toNat, fun _ => 0))) i.toNat) := e_nai cal rfl h1 h2
theorem u_Kp_init_18 : ex cal k_Kp_init 18 (ls) (aQ r :: aQ (some a) :: st) h = gO h a 2 (ex cal k_Kp_init 21 (ls) (st) (pf h a 1 (aQ r))) := e_pf1 rfl rfl
theorem u_Kp_init_21 : ex cal k_Kp_init 21 (ls) ([]) h = some (none, h) := e_ret0 cal rfl
theorem n_Kp_init (d : Nat) : ev (d + 1) M_Kp_init [aQ (some a)] h = ex (ev d) k_Kp_init 0 [aQ (some a)] [] h := rfl
theorem u_Kp_after_0 : ex cal k_Kp_after 0 (aQ r :: ls) (st) h = ex cal k_Kp_after 1 (aQ r :: ls) (aQ r :: st) h := ex_st cal (s := s_ald 0 1) rfl rfl
theorem u_Kp_after_1 : ex cal k_Kp_after 1 (x0 :: aQ r :: ls) (st) h = ex cal k_Kp_after 2 (x0 :: aQ r :: ls) (aQ r :: st) h := ex_st cal (s := s_ald 1 2) rfl rfl
theorem u_Kp_after_2 : ex cal k_Kp_after 2 (ls) (aQ (some a) :: st) h = gO h a 1 (ex cal k_Kp_after 5 (ls) (gf h a 6 :: st) h) := e_gf cal rfl
theorem u_Kp_after_5 : ex cal k_Kp_after 5 (ls) (aQ (some a) :: st) h = gO h a 4 (ex cal k_Kp_after 8 (ls) (gf h a 0 :: st) h) := e_gf cal rfl
theorem u_Kp_after_8 : ex cal k_Kp_after 8 (ls) (aQ r :: aQ (some a) :: st) h = gO h a 2 (ex cal k_Kp_after 11 (ls) (st) (pf h a 3 (aQ r))) := e_pf1 rfl rfl
theorem u_Kp_after_11 : ex cal k_Kp_after 11 (aQ r :: ls) (st) h = ex cal k_Kp_after 12 (aQ r :: ls) (aQ r :: st) h := ex_st cal (s := s_ald 0 12) rfl rfl
theorem u_Kp_after_12 : ex cal k_Kp_after 12 (x0 :: x1 :: aQ r :: ls) (st) h = ex cal k_Kp_after 13 (x0 :: x1 :: aQ r :: ls) (aQ r :: st) h := ex_st cal (s := s_ald 2 13) rfl rfl
theorem u_Kp_after_13 : ex cal k_Kp_after 13 (ls) (aQ r :: aQ (some a) :: st) h = gO h a 2 (ex cal k_Kp_after 16 (ls) (st) (pf h a 4 (aQ r))) := e_pf1 rfl rfl
theorem u_Kp_after_16 : ex cal k_Kp_after 16 (aQ r :: ls) (st) h = ex cal k_Kp_after 17 (aQ r :: ls) (aQ r :: st) h := ex_st cal (s := s_ald 0 17) rfl rfl
theorem u_Kp_after_17 : ex cal k_Kp_after 17 (x0 :: x1 :: x2 :: aI v :: ls) (st) h = ex cal k_Kp_after 18 (x0 :: x1 :: x2 :: aI v :: ls) (aI v :: st) h := ex_st cal (s := s_ild 3 18) rfl rfl
theorem u_Kp_after_18 : ex cal k_Kp_after 18 (ls) (aI v :: aQ (some a) :: st) h = gO h a 2 (ex cal k_Kp_after 21 (ls) (st) (pf h a 5 (aI v))) := e_pf1 rfl rfl
theorem u_Kp_after_21 : ex cal k_Kp_after 21 (aQ r :: ls) (st) h = ex cal k_Kp_after 22 (aQ r :: ls) (aQ r :: st) h := ex_st cal (s := s_ald 0 22) rfl rfl
theorem u_Kp_after_22 : ex cal k_Kp_after 22 (x0 :: aQ r :: ls) (st) h = ex cal k_Kp_after 23 (x0 :: aQ r :: ls) (aQ r :: st) h := ex_st cal (s := s_ald 1 23) rfl rfl
theorem u_Kp_after_23 : ex cal k_Kp_after 23 (ls) (aQ (some a) :: st) h = gO h a 1 (ex cal k_Kp_after 26 (ls) (gf h a 1 :: st) h) := e_gf cal rfl
theorem u_Kp_after_26 : ex cal k_Kp_after 26 (ls) (st) h = ex cal k_Kp_after 27 (ls) (aI 1 :: st) h := e_push cal rfl
theorem u_Kp_after_27 (hl : Nat.ble st.length 4 = true) : ex cal k_Kp_after 27 (ls) (aI z1 :: aI z0 :: st) h = kk cal k_Kp_after 30 ls st (cal M_C_isUnder [aI z0, aI z1] h) := e_call cal (as := [aI z1, aI z0]) rfl rfl (Nat.le_of_ble_eq_true hl)
theorem u_Kp_after_30 (hv : v = 0 ∨ v = 1) : ex cal k_Kp_after 30 (ls) (aI v :: aQ (some a) :: st) h = gO h a 2 (ex cal k_Kp_after 33 (ls) (st) (pf h a 6 (aI v))) := e_pf1 rfl (okT1 hv)
theorem u_Kp_after_33 : ex cal k_Kp_after 33 (aQ r :: ls) (st) h = ex cal k_Kp_after 34 (aQ r :: ls) (aQ r :: st) h := ex_st cal (s := s_ald 0 34) rfl rfl
theorem u_Kp_after_34 : ex cal k_Kp_after 34 (ls) (st) h = ex cal k_Kp_after 35 (ls) (aI 0 :: st) h := e_push cal rfl
theorem u_Kp_after_35 : ex cal k_Kp_after 35 (ls) (aI v :: aQ (some a) :: st) h = gO h a 2 (ex cal k_Kp_after 38 (ls) (st) (pf h a 2 (aI v))) := e_pf1 rfl rfl
theorem u_Kp_after_38 : ex cal k_Kp_after 38 (aQ r :: ls) (st) h = ex cal k_Kp_after 39 (aQ r :: ls) (aQ r :: st) h := ex_st cal (s := s_ald 0 39) rfl rfl
theorem u_Kp_after_39 (hl : Nat.ble st.length 4 = true) : ex cal k_Kp_after 39 (ls) (aQ (some a) :: st) h = gO h a 2 (kk cal k_Kp_after 42 ls st (cal M_Kp_countMost [aQ (some a)] h)) := e_callV cal (ci := 2) (as := []) rfl (by decide) rfl (Nat.le_of_ble_eq_true hl)
theorem u_Kp_after_42 : ex cal k_Kp_after 42 (aQ r :: ls) (st) h = ex cal k_Kp_after 43 (aQ r :: ls) (aQ r :: st) h := ex_st cal (s := s_ald 0 43) rfl rfl
theorem u_Kp_after_43 (hl : Nat.ble st.length 4 = true) : ex cal k_Kp_after 43 (ls) (aQ (some a) :: st) h = gO h a 2 (kk cal k_Kp_after 46 ls st (cal M_Kp_pairInOrder [aQ (some a)] h)) := e_callV cal (ci := 2) (as := []) rfl (by decide) rfl (Nat.le_of_ble_eq_true hl)
theorem u_Kp_after_46 : ex cal k_Kp_after 46 (x0 :: aQ r :: ls) (st) h = ex cal k_Kp_after 47 (x0 :: aQ r :: ls) (aQ r :: st) h := ex_st cal (s := s_ald 1 47) rfl rfl
theorem u_Kp_after_47 : ex cal k_Kp_after 47 (ls) (aQ (some a) :: st) h = gO h a 1 (ex cal k_Kp_after 50 (ls) (gf h a 1 :: st) h) := e_gf cal rfl
theorem u_Kp_after_50 : ex cal k_Kp_after 50 (ls) (st) h = ex cal k_Kp_after 51 (ls) (aI 5 :: st) h := e_push cal rfl
theorem u_Kp_after_51 : ex cal k_Kp_after 51 (ls) (aI j :: aI i :: st) h = if wr i = wr j then ex cal k_Kp_after 54 (ls) (st) h else ex cal k_Kp_after 58 (ls) (st) h := e_icne cal rfl
theorem u_Kp_after_54 : ex cal k_Kp_after 54 (aQ r :: ls) (st) h = ex cal k_Kp_after 55 (aQ r :: ls) (aQ r :: st) h := ex_st cal (s := s_ald 0 55) rfl rfl
theorem u_Kp_after_55 (hl : Nat.ble st.length 4 = true) : ex cal k_Kp_after 55 (ls) (aQ (some a) :: st) h = gO h a 2 (kk cal k_Kp_after 58 ls st (cal M_Kp_pairMoved [aQ (some a)] h)) := e_callV cal (ci := 2) (as := []) rfl (by decide) rfl (Nat.le_of_ble_eq_true hl)
theorem u_Kp_after_58 : ex cal k_Kp_after 58 (aQ r :: ls) (st) h = ex cal k_Kp_after 59 (aQ r :: ls) (aQ r :: st) h := ex_st cal (s := s_ald 0 59) rfl rfl
theorem u_Kp_after_59 : ex cal k_Kp_after 59 (x0 :: aQ r :: ls) (st) h = ex cal k_Kp_after 60 (x0 :: aQ r :: ls) (aQ r :: st) h := ex_st cal (s := s_ald 1 60) rfl rfl
theorem u_Kp_after_60 (hl : Nat.ble st.length 4 = true) : ex cal k_Kp_after 60 (ls) (aQ r0 :: aQ (some a) :: st) h = gO h a 2 (kk cal k_Kp_after 63 ls st (cal M_Kp_newPage [aQ (some a), aQ r0] h)) := e_callV cal (ci := 2) (as := [aQ r0]) rfl (by decide) rfl (Nat.le_of_ble_eq_true hl)
theorem u_Kp_after_63 : ex cal k_Kp_after 63 (ls) ([aQ r]) h = some (some (aQ r), h) := e_ret3 cal rfl
theorem n_Kp_after (d : Nat) : ev (d + 1) M_Kp_after [aQ (some a), aQ r0, aQ r1, aI z2] h = ex (ev d) k_Kp_after 0 [aQ (some a), aQ r0, aQ r1, aI z2] [] h := rfl
theorem u_Kp_isAlike_0 : ex cal k_Kp_isAlike 0 (aQ r :: ls) (st) h = ex cal k_Kp_isAlike 1 (aQ r :: ls) (aQ r :: st) h := ex_st cal (s := s_ald 0 1) rfl rfl
theorem u_Kp_isAlike_1 : ex cal k_Kp_isAlike 1 (ls) (aQ (some a) :: st) h = gO h a 2 (ex cal k_Kp_isAlike 4 (ls) (gf h a 6 :: st) h) := e_gf cal rfl
theorem u_Kp_isAlike_4 : ex cal k_Kp_isAlike 4 (ls) (aI i :: st) h = if wr i = 0 then ex cal k_Kp_isAlike 39 (ls) (st) h else ex cal k_Kp_isAlike 7 (ls) (st) h := e_ifeq cal rfl
theorem u_Kp_isAlike_7 : ex cal k_Kp_isAlike 7 (aQ r :: ls) (st) h = ex cal k_Kp_isAlike 8 (aQ r :: ls) (aQ r :: st) h := ex_st cal (s := s_ald 0 8) rfl rfl
theorem u_Kp_isAlike_8 : ex cal k_Kp_isAlike 8 (ls) (aQ (some a) :: st) h = gO h a 2 (ex cal k_Kp_isAlike 11 (ls) (gf h a 3 :: st) h) := e_gf cal rfl
theorem u_Kp_isAlike_11 : ex cal k_Kp_isAlike 11 (x0 :: aI v :: ls) (st) h = ex cal k_Kp_isAlike 12 (x0 :: aI v :: ls) (aI v :: st) h := ex_st cal (s := s_ild 1 12) rfl rfl
theorem u_Kp_isAlike_12 : ex cal k_Kp_isAlike 12 (ls) (aI i :: aQ (some a) :: st) h = gR h a 2 i (ex cal k_Kp_isAlike 13 (ls) (aQ (ra h a (wr i)) :: st) h) := e_ra cal rfl
theorem u_Kp_isAlike_13 : ex cal k_Kp_isAlike 13 (ls) (aQ (some a) :: st) h = gO h a 3 (ex cal k_Kp_isAlike 16 (ls) (gf h a 0 :: st) h) := e_gf cal rfl
theorem u_Kp_isAlike_16 (hl : Nat.ble st.length 4 = true) : ex cal k_Kp_isAlike 16 (ls) (aI z0 :: st) h = kk cal k_Kp_isAlike 19 ls st (cal M_Kp_wordingOf [aI z0] h) := e_call cal (as := [aI z0]) rfl rfl (Nat.le_of_ble_eq_true hl)
theorem u_Kp_isAlike_19 : ex cal k_Kp_isAlike 19 (aQ r :: ls) (st) h = ex cal k_Kp_isAlike 20 (aQ r :: ls) (aQ r :: st) h := ex_st cal (s := s_ald 0 20) rfl rfl
theorem u_Kp_isAlike_20 : ex cal k_Kp_isAlike 20 (ls) (aQ (some a) :: st) h = gO h a 2 (ex cal k_Kp_isAlike 23 (ls) (gf h a 4 :: st) h) := e_gf cal rfl
theorem u_Kp_isAlike_23 : ex cal k_Kp_isAlike 23 (x0 :: x1 :: aI v :: ls) (st) h = ex cal k_Kp_isAlike 24 (x0 :: x1 :: aI v :: ls) (aI v :: st) h := ex_st cal (s := s_ild 2 24) rfl rfl
theorem u_Kp_isAlike_24 : ex cal k_Kp_isAlike 24 (ls) (aI i :: aQ (some a) :: st) h = gA h a i (ex cal k_Kp_isAlike 25 (ls) (aI (ai h a (wr i)) :: st) h) := e_ia cal rfl
theorem u_Kp_isAlike_25 (hl : Nat.ble st.length 4 = true) : ex cal k_Kp_isAlike 25 (ls) (aI z0 :: st) h = kk cal k_Kp_isAlike 28 ls st (cal M_Kp_wordingOf [aI z0] h) := e_call cal (as := [aI z0]) rfl rfl (Nat.le_of_ble_eq_true hl)
theorem u_Kp_isAlike_28 : ex cal k_Kp_isAlike 28 (ls) (aI j :: aI i :: st) h = if wr i = wr j then ex cal k_Kp_isAlike 31 (ls) (st) h else ex cal k_Kp_isAlike 35 (ls) (st) h := e_icne cal rfl
theorem u_Kp_isAlike_31 : ex cal k_Kp_isAlike 31 (ls) (st) h = ex cal k_Kp_isAlike 32 (ls) (aI 1 :: st) h := e_push cal rfl
theorem u_Kp_isAlike_32 : ex cal k_Kp_isAlike 32 (ls) (st) h = ex cal k_Kp_isAlike 62 (ls) (st) h := ex_st cal (s := s_go 62) rfl rfl
theorem u_Kp_isAlike_35 : ex cal k_Kp_isAlike 35 (ls) (st) h = ex cal k_Kp_isAlike 36 (ls) (aI 0 :: st) h := e_push cal rfl
theorem u_Kp_isAlike_36 : ex cal k_Kp_isAlike 36 (ls) (st) h = ex cal k_Kp_isAlike 62 (ls) (st) h := ex_st cal (s := s_go 62) rfl rfl
theorem u_Kp_isAlike_39 : ex cal k_Kp_isAlike 39 (aQ r :: ls) (st) h = ex cal k_Kp_isAlike 40 (aQ r :: ls) (aQ r :: st) h := ex_st cal (s := s_ald 0 40) rfl rfl
theorem u_Kp_isAlike_40 : ex cal k_Kp_isAlike 40 (ls) (aQ (some a) :: st) h = gO h a 2 (ex cal k_Kp_isAlike 43 (ls) (gf h a 3 :: st) h) := e_gf cal rfl
theorem u_Kp_isAlike_43 : ex cal k_Kp_isAlike 43 (x0 :: aI v :: ls) (st) h = ex cal k_Kp_isAlike 44 (x0 :: aI v :: ls) (aI v :: st) h := ex_st cal (s := s_ild 1 44) rfl rfl
theorem u_Kp_isAlike_44 : ex cal k_Kp_isAlike 44 (ls) (aI i :: aQ (some a) :: st) h = gR h a 2 i (ex cal k_Kp_isAlike 45 (ls) (aQ (ra h a (wr i)) :: st) h) := e_ra cal rfl
theorem u_Kp_isAlike_45 : ex cal k_Kp_isAlike 45 (ls) (aQ (some a) :: st) h = gO h a 3 (ex cal k_Kp_isAlike 48 (ls) (gf h a 0 :: st) h) := e_gf cal rfl
theorem u_Kp_isAlike_48 : ex cal k_Kp_isAlike 48 (aQ r :: ls) (st) h = ex cal k_Kp_isAlike 49 (aQ r :: ls) (aQ r :: st) h := ex_st cal (s := s_ald 0 49) rfl rfl
theorem u_Kp_isAlike_49 : ex cal k_Kp_isAlike 49 (ls) (aQ (some a) :: st) h = gO h a 2 (ex cal k_Kp_isAlike 52 (ls) (gf h a 4 :: st) h) := e_gf cal rfl
theorem u_Kp_isAlike_52 : ex cal k_Kp_isAlike 52 (x0 :: x1 :: aI v :: ls) (st) h = ex cal k_Kp_isAlike 53 (x0 :: x1 :: aI v :: ls) (aI v :: st) h := ex_st cal (s := s_ild 2 53) rfl rfl
theorem u_Kp_isAlike_53 : ex cal k_Kp_isAlike 53 (ls) (aI i :: aQ (some a) :: st) h = gA h a i (ex cal k_Kp_isAlike 54 (ls) (aI (ai h a (wr i)) :: st) h) := e_ia cal rfl
theorem u_Kp_isAlike_54 : ex cal k_Kp_isAlike 54 (ls) (aI j :: aI i :: st) h = if wr i = wr j then ex cal k_Kp_isAlike 57 (ls) (st) h else ex cal k_Kp_isAlike 61 (ls) (st) h := e_icne cal rfl
theorem u_Kp_isAlike_57 : ex cal k_Kp_isAlike 57 (ls) (st) h = ex cal k_Kp_isAlike 58 (ls) (aI 1 :: st) h := e_push cal rfl
theorem u_Kp_isAlike_58 : ex cal k_Kp_isAlike 58 (ls) (st) h = ex cal k_Kp_isAlike 62 (ls) (st) h := ex_st cal (s := s_go 62) rfl rfl
theorem u_Kp_isAlike_61 : ex cal k_Kp_isAlike 61 (ls) (st) h = ex cal k_Kp_isAlike 62 (ls) (aI 0 :: st) h := e_push cal rfl
theorem u_Kp_isAlike_62 (hv : v = 0 ∨ v = 1) : ex cal k_Kp_isAlike 62 (ls) ([aI v]) h = some (some (aI v), h) := e_ret22 rfl hv
theorem n_Kp_isAlike (d : Nat) : ev (d + 1) M_Kp_isAlike [aQ (some a), aI z0, aI z1] h = ex (ev d) k_Kp_isAlike 0 [aQ (some a), aI z0, aI z1] [] h := rfl
theorem u_Kp_wordingOf_0 : ex cal k_Kp_wordingOf 0 (aI v :: ls) (st) h = ex cal k_Kp_wordingOf 1 (aI v :: ls) (aI v :: st) h := ex_st cal (s := s_ild 0 1) rfl rfl
theorem u_Kp_wordingOf_1 : ex cal k_Kp_wordingOf 1 (ls) (st) h = ex cal k_Kp_wordingOf 3 (ls) (aI 10 :: st) h := e_push cal rfl
theorem u_Kp_wordingOf_3 (h0 : j ≠ 0) (h1 : -2147483648 ≤ j) (h2 : j < 2147483648) : ex cal k_Kp_wordingOf 3 (ls) (aI j :: aI i :: st) h = ex cal k_Kp_wordingOf 4 (ls) (aI ((wr i).tdiv j) :: st) h := e_div2 rfl h0 h1 h2
theorem u_Kp_wordingOf_4 : ex cal k_Kp_wordingOf 4 (ls) ([aI v]) h = some (some (aI v), h) := e_ret1 cal rfl
theorem n_Kp_wordingOf (d : Nat) : ev (d + 1) M_Kp_wordingOf [aI z0] h = ex (ev d) k_Kp_wordingOf 0 [aI z0] [] h := rfl
theorem u_Kp_countMost_0 : ex cal k_Kp_countMost 0 (aQ r :: ls) (st) h = ex cal k_Kp_countMost 1 (aQ r :: ls) (aQ r :: st) h := ex_st cal (s := s_ald 0 1) rfl rfl
theorem u_Kp_countMost_1 : ex cal k_Kp_countMost 1 (ls) (aQ (some a) :: st) h = gO h a 2 (ex cal k_Kp_countMost 4 (ls) (gf h a 0 :: st) h) := e_gf cal rfl
theorem u_Kp_countMost_4 : ex cal k_Kp_countMost 4 (ls) (st) h = ex cal k_Kp_countMost 5 (ls) (aI 0 :: st) h := e_push cal rfl
theorem u_Kp_countMost_5 (hl : Nat.ble st.length 4 = true) : ex cal k_Kp_countMost 5 (ls) (aI z1 :: aQ r0 :: st) h = kk cal k_Kp_countMost 8 ls st (cal M_J_fill [aQ r0, aI z1] h) := e_call cal (as := [aI z1, aQ r0]) rfl rfl (Nat.le_of_ble_eq_true hl)
theorem u_Kp_countMost_8 : ex cal k_Kp_countMost 8 (aQ r :: ls) (st) h = ex cal k_Kp_countMost 9 (aQ r :: ls) (aQ r :: st) h := ex_st cal (s := s_ald 0 9) rfl rfl
theorem u_Kp_countMost_9 : ex cal k_Kp_countMost 9 (ls) (aQ (some a) :: st) h = gO h a 2 (ex cal k_Kp_countMost 12 (ls) (gf h a 3 :: st) h) := e_gf cal rfl
theorem u_Kp_countMost_12 : ex cal k_Kp_countMost 12 (ls) (aQ (some a) :: st) h = gB (isAR h a) (ex cal k_Kp_countMost 13 (ls) (aI (al h a) :: st) h) := e_len cal rfl
theorem u_Kp_countMost_13 : ex cal k_Kp_countMost 13 (ls) (st) h = ex cal k_Kp_countMost 14 (ls) (aI 1 :: st) h := e_push cal rfl
theorem u_Kp_countMost_14 : ex cal k_Kp_countMost 14 (ls) (aI j :: aI i :: st) h = ex cal k_Kp_countMost 15 (ls) (aI (i - j) :: st) h := e_bin cal rfl
theorem u_Kp_countMost_15 (hx : aNl x0 = true) : ex cal k_Kp_countMost 15 (x0 :: y :: ls) (aI v :: st) h = ex cal k_Kp_countMost 16 (x0 :: aI v :: ls) (st) h := e_ist (ls := x0 :: y :: ls) (k := 1) rfl hx (by simp only [List.length_cons]; omega)
theorem u_Kp_countMost_16 : ex cal k_Kp_countMost 16 (x0 :: aI v :: ls) (st) h = ex cal k_Kp_countMost 17 (x0 :: aI v :: ls) (aI v :: st) h := ex_st cal (s := s_ild 1 17) rfl rfl
theorem u_Kp_countMost_17 : ex cal k_Kp_countMost 17 (ls) (aI i :: st) h = if wr i < 0 then ex cal k_Kp_countMost 101 (ls) (st) h else ex cal k_Kp_countMost 20 (ls) (st) h := e_iflt cal rfl
theorem u_Kp_countMost_20 : ex cal k_Kp_countMost 20 (aQ r :: ls) (st) h = ex cal k_Kp_countMost 21 (aQ r :: ls) (aQ r :: st) h := ex_st cal (s := s_ald 0 21) rfl rfl
theorem u_Kp_countMost_21 : ex cal k_Kp_countMost 21 (ls) (aQ (some a) :: st) h = gO h a 2 (ex cal k_Kp_countMost 24 (ls) (gf h a 5 :: st) h) := e_gf cal rfl
theorem u_Kp_countMost_24 : ex cal k_Kp_countMost 24 (ls) (st) h = ex cal k_Kp_countMost 25 (ls) (aI 1 :: st) h := e_push cal rfl
theorem u_Kp_countMost_25 : ex cal k_Kp_countMost 25 (ls) (aI j :: aI i :: st) h = ex cal k_Kp_countMost 26 (ls) (aI (i - j) :: st) h := e_bin cal rfl
theorem u_Kp_countMost_26 (hx : aNl x1 = true) : ex cal k_Kp_countMost 26 (x0 :: x1 :: y :: ls) (aI v :: st) h = ex cal k_Kp_countMost 27 (x0 :: x1 :: aI v :: ls) (st) h := e_ist (ls := x0 :: x1 :: y :: ls) (k := 2) rfl hx (by simp only [List.length_cons]; omega)
theorem u_Kp_countMost_27 : ex cal k_Kp_countMost 27 (x0 :: x1 :: aI v :: ls) (st) h = ex cal k_Kp_countMost 28 (x0 :: x1 :: aI v :: ls) (aI v :: st) h := ex_st cal (s := s_ild 2 28) rfl rfl
theorem u_Kp_countMost_28 : ex cal k_Kp_countMost 28 (ls) (aI i :: st) h = if wr i < 0 then ex cal k_Kp_countMost 95 (ls) (st) h else ex cal k_Kp_countMost 31 (ls) (st) h := e_iflt cal rfl
theorem u_Kp_countMost_31 : ex cal k_Kp_countMost 31 (x0 :: aI v :: ls) (st) h = ex cal k_Kp_countMost 32 (x0 :: aI v :: ls) (aI v :: st) h := ex_st cal (s := s_ild 1 32) rfl rfl
theorem u_Kp_countMost_32 : ex cal k_Kp_countMost 32 (ls) (st) h = ex cal k_Kp_countMost 34 (ls) (aI 21 :: st) h := e_push cal rfl
theorem u_Kp_countMost_34 : ex cal k_Kp_countMost 34 (ls) (aI j :: aI i :: st) h = ex cal k_Kp_countMost 35 (ls) (aI (i * j) :: st) h := e_bin cal rfl
theorem u_Kp_countMost_35 : ex cal k_Kp_countMost 35 (x0 :: x1 :: aI v :: ls) (st) h = ex cal k_Kp_countMost 36 (x0 :: x1 :: aI v :: ls) (aI v :: st) h := ex_st cal (s := s_ild 2 36) rfl rfl
theorem u_Kp_countMost_36 : ex cal k_Kp_countMost 36 (ls) (aI j :: aI i :: st) h = ex cal k_Kp_countMost 37 (ls) (aI (i + j) :: st) h := e_bin cal rfl
theorem u_Kp_countMost_37 (hx : aNl x2 = true) : ex cal k_Kp_countMost 37 (x0 :: x1 :: x2 :: y :: ls) (aI v :: st) h = ex cal k_Kp_countMost 38 (x0 :: x1 :: x2 :: aI v :: ls) (st) h := e_ist (ls := x0 :: x1 :: x2 :: y :: ls) (k := 3) rfl hx (by simp only [List.length_cons]; omega)
theorem u_Kp_countMost_38 : ex cal k_Kp_countMost 38 (aQ r :: ls) (st) h = ex cal k_Kp_countMost 39 (aQ r :: ls) (aQ r :: st) h := ex_st cal (s := s_ald 0 39) rfl rfl
theorem u_Kp_countMost_39 : ex cal k_Kp_countMost 39 (ls) (aQ (some a) :: st) h = gO h a 2 (ex cal k_Kp_countMost 42 (ls) (gf h a 0 :: st) h) := e_gf cal rfl
theorem u_Kp_countMost_42 : ex cal k_Kp_countMost 42 (x0 :: x1 :: x2 :: aI v :: ls) (st) h = ex cal k_Kp_countMost 43 (x0 :: x1 :: x2 :: aI v :: ls) (aI v :: st) h := ex_st cal (s := s_ild 3 43) rfl rfl
theorem u_Kp_countMost_43 : ex cal k_Kp_countMost 43 (aQ r :: ls) (st) h = ex cal k_Kp_countMost 44 (aQ r :: ls) (aQ r :: st) h := ex_st cal (s := s_ald 0 44) rfl rfl
theorem u_Kp_countMost_44 : ex cal k_Kp_countMost 44 (x0 :: aI v :: ls) (st) h = ex cal k_Kp_countMost 45 (x0 :: aI v :: ls) (aI v :: st) h := ex_st cal (s := s_ild 1 45) rfl rfl
theorem u_Kp_countMost_45 : ex cal k_Kp_countMost 45 (x0 :: x1 :: aI v :: ls) (st) h = ex cal k_Kp_countMost 46 (x0 :: x1 :: aI v :: ls) (aI v :: st) h := ex_st cal (s := s_ild 2 46) rfl rfl
theorem u_Kp_countMost_46 (hl : Nat.ble st.length 4 = true) : ex cal k_Kp_countMost 46 (ls) (aI z1 :: aI z0 :: aQ (some a) :: st) h = gO h a 2 (kk cal k_Kp_countMost 49 ls st (cal M_Kp_isAlike [aQ (some a), aI z0, aI z1] h)) := e_callV cal (ci := 2) (as := [aI z1, aI z0]) rfl (by decide) rfl (Nat.le_of_ble_eq_true hl)
theorem u_Kp_countMost_49 : ex cal k_Kp_countMost 49 (ls) (aI i :: st) h = if wr i = 0 then ex cal k_Kp_countMost 68 (ls) (st) h else ex cal k_Kp_countMost 52 (ls) (st) h := e_ifeq cal rfl
theorem u_Kp_countMost_52 : ex cal k_Kp_countMost 52 (ls) (st) h = ex cal k_Kp_countMost 53 (ls) (aI 1 :: st) h := e_push cal rfl
theorem u_Kp_countMost_53 : ex cal k_Kp_countMost 53 (aQ r :: ls) (st) h = ex cal k_Kp_countMost 54 (aQ r :: ls) (aQ r :: st) h := ex_st cal (s := s_ald 0 54) rfl rfl
theorem u_Kp_countMost_54 : ex cal k_Kp_countMost 54 (ls) (aQ (some a) :: st) h = gO h a 2 (ex cal k_Kp_countMost 57 (ls) (gf h a 0 :: st) h) := e_gf cal rfl
theorem u_Kp_countMost_57 : ex cal k_Kp_countMost 57 (x0 :: x1 :: x2 :: aI v :: ls) (st) h = ex cal k_Kp_countMost 58 (x0 :: x1 :: x2 :: aI v :: ls) (aI v :: st) h := ex_st cal (s := s_ild 3 58) rfl rfl
theorem u_Kp_countMost_58 : ex cal k_Kp_countMost 58 (ls) (st) h = ex cal k_Kp_countMost 60 (ls) (aI 21 :: st) h := e_push cal rfl
theorem u_Kp_countMost_60 : ex cal k_Kp_countMost 60 (ls) (aI j :: aI i :: st) h = ex cal k_Kp_countMost 61 (ls) (aI (i + j) :: st) h := e_bin cal rfl
theorem u_Kp_countMost_61 : ex cal k_Kp_countMost 61 (ls) (st) h = ex cal k_Kp_countMost 62 (ls) (aI 1 :: st) h := e_push cal rfl
theorem u_Kp_countMost_62 : ex cal k_Kp_countMost 62 (ls) (aI j :: aI i :: st) h = ex cal k_Kp_countMost 63 (ls) (aI (i + j) :: st) h := e_bin cal rfl
theorem u_Kp_countMost_63 : ex cal k_Kp_countMost 63 (ls) (aI i :: aQ (some a) :: st) h = gA h a i (ex cal k_Kp_countMost 64 (ls) (aI (ai h a (wr i)) :: st) h) := e_ia cal rfl
theorem u_Kp_countMost_64 : ex cal k_Kp_countMost 64 (ls) (aI j :: aI i :: st) h = ex cal k_Kp_countMost 65 (ls) (aI (i + j) :: st) h := e_bin cal rfl
theorem u_Kp_countMost_65 : ex cal k_Kp_countMost 65 (ls) (st) h = ex cal k_Kp_countMost 88 (ls) (st) h := ex_st cal (s := s_go 88) rfl rfl
theorem u_Kp_countMost_68 : ex cal k_Kp_countMost 68 (aQ r :: ls) (st) h = ex cal k_Kp_countMost 69 (aQ r :: ls) (aQ r :: st) h := ex_st cal (s := s_ald 0 69) rfl rfl
theorem u_Kp_countMost_69 : ex cal k_Kp_countMost 69 (ls) (aQ (some a) :: st) h = gO h a 2 (ex cal k_Kp_countMost 72 (ls) (gf h a 0 :: st) h) := e_gf cal rfl
theorem u_Kp_countMost_72 : ex cal k_Kp_countMost 72 (x0 :: x1 :: x2 :: aI v :: ls) (st) h = ex cal k_Kp_countMost 73 (x0 :: x1 :: x2 :: aI v :: ls) (aI v :: st) h := ex_st cal (s := s_ild 3 73) rfl rfl
theorem u_Kp_countMost_73 : ex cal k_Kp_countMost 73 (ls) (st) h = ex cal k_Kp_countMost 75 (ls) (aI 21 :: st) h := e_push cal rfl
theorem u_Kp_countMost_75 : ex cal k_Kp_countMost 75 (ls) (aI j :: aI i :: st) h = ex cal k_Kp_countMost 76 (ls) (aI (i + j) :: st) h := e_bin cal rfl
theorem u_Kp_countMost_76 : ex cal k_Kp_countMost 76 (ls) (aI i :: aQ (some a) :: st) h = gA h a i (ex cal k_Kp_countMost 77 (ls) (aI (ai h a (wr i)) :: st) h) := e_ia cal rfl
theorem u_Kp_countMost_77 : ex cal k_Kp_countMost 77 (aQ r :: ls) (st) h = ex cal k_Kp_countMost 78 (aQ r :: ls) (aQ r :: st) h := ex_st cal (s := s_ald 0 78) rfl rfl
theorem u_Kp_countMost_78 : ex cal k_Kp_countMost 78 (ls) (aQ (some a) :: st) h = gO h a 2 (ex cal k_Kp_countMost 81 (ls) (gf h a 0 :: st) h) := e_gf cal rfl
theorem u_Kp_countMost_81 : ex cal k_Kp_countMost 81 (x0 :: x1 :: x2 :: aI v :: ls) (st) h = ex cal k_Kp_countMost 82 (x0 :: x1 :: x2 :: aI v :: ls) (aI v :: st) h := ex_st cal (s := s_ild 3 82) rfl rfl
theorem u_Kp_countMost_82 : ex cal k_Kp_countMost 82 (ls) (st) h = ex cal k_Kp_countMost 83 (ls) (aI 1 :: st) h := e_push cal rfl
theorem u_Kp_countMost_83 : ex cal k_Kp_countMost 83 (ls) (aI j :: aI i :: st) h = ex cal k_Kp_countMost 84 (ls) (aI (i + j) :: st) h := e_bin cal rfl
theorem u_Kp_countMost_84 : ex cal k_Kp_countMost 84 (ls) (aI i :: aQ (some a) :: st) h = gA h a i (ex cal k_Kp_countMost 85 (ls) (aI (ai h a (wr i)) :: st) h) := e_ia cal rfl
theorem u_Kp_countMost_85 (hl : Nat.ble st.length 4 = true) : ex cal k_Kp_countMost 85 (ls) (aI z1 :: aI z0 :: st) h = kk cal k_Kp_countMost 88 ls st (cal M_J_max [aI z0, aI z1] h) := e_call cal (as := [aI z1, aI z0]) rfl rfl (Nat.le_of_ble_eq_true hl)
theorem u_Kp_countMost_88 (h3 : 3 ≤ a) : ex cal k_Kp_countMost 88 (ls) (aI v :: aI i :: aQ (some a) :: st) h = gA h a i (ex cal k_Kp_countMost 89 (ls) (st) (sa h a (upf (ai h a) (wr i) v))) := e_ias cal rfl h3
theorem u_Kp_countMost_89 (hx : aNl x1 = true) : ex cal k_Kp_countMost 89 (x0 :: x1 :: aI v :: ls) (st) h = ex cal k_Kp_countMost 92 (x0 :: x1 :: aI (v + (-1)) :: ls) (st) h := e_inc (ls := x0 :: x1 :: aI v :: ls) (k := 2) rfl rfl hx
theorem u_Kp_countMost_92 : ex cal k_Kp_countMost 92 (ls) (st) h = ex cal k_Kp_countMost 27 (ls) (st) h := ex_st cal (s := s_go 27) rfl rfl
theorem u_Kp_countMost_95 (hx : aNl x0 = true) : ex cal k_Kp_countMost 95 (x0 :: aI v :: ls) (st) h = ex cal k_Kp_countMost 98 (x0 :: aI (v + (-1)) :: ls) (st) h := e_inc (ls := x0 :: aI v :: ls) (k := 1) rfl rfl hx
theorem u_Kp_countMost_98 : ex cal k_Kp_countMost 98 (ls) (st) h = ex cal k_Kp_countMost 16 (ls) (st) h := ex_st cal (s := s_go 16) rfl rfl
theorem u_Kp_countMost_101 : ex cal k_Kp_countMost 101 (ls) ([]) h = some (none, h) := e_ret0 cal rfl
theorem n_Kp_countMost (d : Nat) : ev (d + 1) M_Kp_countMost [aQ (some a)] h = ex (ev d) k_Kp_countMost 0 [aQ (some a), aU, aU, aU] [] h := rfl
theorem u_Kp_pairInOrder_0 : ex cal k_Kp_pairInOrder 0 (ls) (st) h = ex cal k_Kp_pairInOrder 1 (ls) (aI 0 :: st) h := e_push cal rfl
theorem u_Kp_pairInOrder_1 (hx : aNl x0 = true) : ex cal k_Kp_pairInOrder 1 (x0 :: y :: ls) (aI v :: st) h = ex cal k_Kp_pairInOrder 2 (x0 :: aI v :: ls) (st) h := e_ist (ls := x0 :: y :: ls) (k := 1) rfl hx (by simp only [List.length_cons]; omega)
theorem u_Kp_pairInOrder_2 : ex cal k_Kp_pairInOrder 2 (ls) (st) h = ex cal k_Kp_pairInOrder 3 (ls) (aI 0 :: st) h := e_push cal rfl
theorem u_Kp_pairInOrder_3 (hx : aNl x1 = true) : ex cal k_Kp_pairInOrder 3 (x0 :: x1 :: y :: ls) (aI v :: st) h = ex cal k_Kp_pairInOrder 4 (x0 :: x1 :: aI v :: ls) (st) h := e_ist (ls := x0 :: x1 :: y :: ls) (k := 2) rfl hx (by simp only [List.length_cons]; omega)
theorem u_Kp_pairInOrder_4 : ex cal k_Kp_pairInOrder 4 (x0 :: x1 :: aI v :: ls) (st) h = ex cal k_Kp_pairInOrder 5 (x0 :: x1 :: aI v :: ls) (aI v :: st) h := ex_st cal (s := s_ild 2 5) rfl rfl
theorem u_Kp_pairInOrder_5 : ex cal k_Kp_pairInOrder 5 (aQ r :: ls) (st) h = ex cal k_Kp_pairInOrder 6 (aQ r :: ls) (aQ r :: st) h := ex_st cal (s := s_ald 0 6) rfl rfl
theorem u_Kp_pairInOrder_6 : ex cal k_Kp_pairInOrder 6 (ls) (aQ (some a) :: st) h = gO h a 2 (ex cal k_Kp_pairInOrder 9 (ls) (gf h a 5 :: st) h) := e_gf cal rfl
theorem u_Kp_pairInOrder_9 : ex cal k_Kp_pairInOrder 9 (ls) (aI j :: aI i :: st) h = if wr i < wr j then ex cal k_Kp_pairInOrder 12 (ls) (st) h else ex cal k_Kp_pairInOrder 53 (ls) (st) h := e_icge cal rfl
theorem u_Kp_pairInOrder_12 : ex cal k_Kp_pairInOrder 12 (aQ r :: ls) (st) h = ex cal k_Kp_pairInOrder 13 (aQ r :: ls) (aQ r :: st) h := ex_st cal (s := s_ald 0 13) rfl rfl
theorem u_Kp_pairInOrder_13 : ex cal k_Kp_pairInOrder 13 (x0 :: aI v :: ls) (st) h = ex cal k_Kp_pairInOrder 14 (x0 :: aI v :: ls) (aI v :: st) h := ex_st cal (s := s_ild 1 14) rfl rfl
theorem u_Kp_pairInOrder_14 : ex cal k_Kp_pairInOrder 14 (x0 :: x1 :: aI v :: ls) (st) h = ex cal k_Kp_pairInOrder 15 (x0 :: x1 :: aI v :: ls) (aI v :: st) h := ex_st cal (s := s_ild 2 15) rfl rfl
theorem u_Kp_pairInOrder_15 (hl : Nat.ble st.length 4 = true) : ex cal k_Kp_pairInOrder 15 (ls) (aI z1 :: aI z0 :: aQ (some a) :: st) h = gO h a 2 (kk cal k_Kp_pairInOrder 18 ls st (cal M_Kp_leastOld [aQ (some a), aI z0, aI z1] h)) := e_callV cal (ci := 2) (as := [aI z1, aI z0]) rfl (by decide) rfl (Nat.le_of_ble_eq_true hl)
theorem u_Kp_pairInOrder_18 (hx : aNl x2 = true) : ex cal k_Kp_pairInOrder 18 (x0 :: x1 :: x2 :: y :: ls) (aI v :: st) h = ex cal k_Kp_pairInOrder 19 (x0 :: x1 :: x2 :: aI v :: ls) (st) h := e_ist (ls := x0 :: x1 :: x2 :: y :: ls) (k := 3) rfl hx (by simp only [List.length_cons]; omega)
theorem u_Kp_pairInOrder_19 : ex cal k_Kp_pairInOrder 19 (aQ r :: ls) (st) h = ex cal k_Kp_pairInOrder 20 (aQ r :: ls) (aQ r :: st) h := ex_st cal (s := s_ald 0 20) rfl rfl
theorem u_Kp_pairInOrder_20 : ex cal k_Kp_pairInOrder 20 (ls) (aQ (some a) :: st) h = gO h a 2 (ex cal k_Kp_pairInOrder 23 (ls) (gf h a 1 :: st) h) := e_gf cal rfl
theorem u_Kp_pairInOrder_23 : ex cal k_Kp_pairInOrder 23 (x0 :: x1 :: aI v :: ls) (st) h = ex cal k_Kp_pairInOrder 24 (x0 :: x1 :: aI v :: ls) (aI v :: st) h := ex_st cal (s := s_ild 2 24) rfl rfl
theorem u_Kp_pairInOrder_24 : ex cal k_Kp_pairInOrder 24 (x0 :: x1 :: x2 :: aI v :: ls) (st) h = ex cal k_Kp_pairInOrder 25 (x0 :: x1 :: x2 :: aI v :: ls) (aI v :: st) h := ex_st cal (s := s_ild 3 25) rfl rfl
theorem u_Kp_pairInOrder_25 (h3 : 3 ≤ a) : ex cal k_Kp_pairInOrder 25 (ls) (aI v :: aI i :: aQ (some a) :: st) h = gA h a i (ex cal k_Kp_pairInOrder 26 (ls) (st) (sa h a (upf (ai h a) (wr i) v))) := e_ias cal rfl h3
theorem u_Kp_pairInOrder_26 : ex cal k_Kp_pairInOrder 26 (x0 :: x1 :: x2 :: aI v :: ls) (st) h = ex cal k_Kp_pairInOrder 27 (x0 :: x1 :: x2 :: aI v :: ls) (aI v :: st) h := ex_st cal (s := s_ild 3 27) rfl rfl
theorem u_Kp_pairInOrder_27 : ex cal k_Kp_pairInOrder 27 (ls) (st) h = ex cal k_Kp_pairInOrder 28 (ls) (aI (-1) :: st) h := e_push cal rfl
theorem u_Kp_pairInOrder_28 : ex cal k_Kp_pairInOrder 28 (ls) (aI j :: aI i :: st) h = if wr i = wr j then ex cal k_Kp_pairInOrder 47 (ls) (st) h else ex cal k_Kp_pairInOrder 31 (ls) (st) h := e_iceq cal rfl
theorem u_Kp_pairInOrder_31 : ex cal k_Kp_pairInOrder 31 (aQ r :: ls) (st) h = ex cal k_Kp_pairInOrder 32 (aQ r :: ls) (aQ r :: st) h := ex_st cal (s := s_ald 0 32) rfl rfl
theorem u_Kp_pairInOrder_32 (hx : aNl y = true) : ex cal k_Kp_pairInOrder 32 (ls) (y :: st) h = ex cal k_Kp_pairInOrder 33 (ls) (y :: y :: st) h := e_dup rfl hx
theorem u_Kp_pairInOrder_33 : ex cal k_Kp_pairInOrder 33 (ls) (aQ (some a) :: st) h = gO h a 2 (ex cal k_Kp_pairInOrder 36 (ls) (gf h a 2 :: st) h) := e_gf cal rfl
theorem u_Kp_pairInOrder_36 : ex cal k_Kp_pairInOrder 36 (ls) (st) h = ex cal k_Kp_pairInOrder 37 (ls) (aI 1 :: st) h := e_push cal rfl
theorem u_Kp_pairInOrder_37 : ex cal k_Kp_pairInOrder 37 (x0 :: x1 :: x2 :: aI v :: ls) (st) h = ex cal k_Kp_pairInOrder 38 (x0 :: x1 :: x2 :: aI v :: ls) (aI v :: st) h := ex_st cal (s := s_ild 3 38) rfl rfl
theorem u_Kp_pairInOrder_38 : ex cal k_Kp_pairInOrder 38 (ls) (aI j :: aI i :: st) h = ex cal k_Kp_pairInOrder 39 (ls) (aI (wshl i j) :: st) h := e_bin cal rfl
theorem u_Kp_pairInOrder_39 : ex cal k_Kp_pairInOrder 39 (ls) (aI j :: aI i :: st) h = ex cal k_Kp_pairInOrder 40 (ls) (aI (wor i j) :: st) h := e_bin cal rfl
theorem u_Kp_pairInOrder_40 : ex cal k_Kp_pairInOrder 40 (ls) (aI v :: aQ (some a) :: st) h = gO h a 2 (ex cal k_Kp_pairInOrder 43 (ls) (st) (pf h a 2 (aI v))) := e_pf1 rfl rfl
theorem u_Kp_pairInOrder_43 : ex cal k_Kp_pairInOrder 43 (x0 :: x1 :: x2 :: aI v :: ls) (st) h = ex cal k_Kp_pairInOrder 44 (x0 :: x1 :: x2 :: aI v :: ls) (aI v :: st) h := ex_st cal (s := s_ild 3 44) rfl rfl
theorem u_Kp_pairInOrder_44 : ex cal k_Kp_pairInOrder 44 (ls) (st) h = ex cal k_Kp_pairInOrder 45 (ls) (aI 1 :: st) h := e_push cal rfl
theorem u_Kp_pairInOrder_45 : ex cal k_Kp_pairInOrder 45 (ls) (aI j :: aI i :: st) h = ex cal k_Kp_pairInOrder 46 (ls) (aI (i + j) :: st) h := e_bin cal rfl
theorem u_Kp_pairInOrder_46 (hx : aNl x0 = true) : ex cal k_Kp_pairInOrder 46 (x0 :: y :: ls) (aI v :: st) h = ex cal k_Kp_pairInOrder 47 (x0 :: aI v :: ls) (st) h := e_ist (ls := x0 :: y :: ls) (k := 1) rfl hx (by simp only [List.length_cons]; omega)
theorem u_Kp_pairInOrder_47 (hx : aNl x1 = true) : ex cal k_Kp_pairInOrder 47 (x0 :: x1 :: aI v :: ls) (st) h = ex cal k_Kp_pairInOrder 50 (x0 :: x1 :: aI (v + 1) :: ls) (st) h := e_inc (ls := x0 :: x1 :: aI v :: ls) (k := 2) rfl rfl hx
theorem u_Kp_pairInOrder_50 : ex cal k_Kp_pairInOrder 50 (ls) (st) h = ex cal k_Kp_pairInOrder 4 (ls) (st) h := ex_st cal (s := s_go 4) rfl rfl
theorem u_Kp_pairInOrder_53 : ex cal k_Kp_pairInOrder 53 (ls) ([]) h = some (none, h) := e_ret0 cal rfl
theorem n_Kp_pairInOrder (d : Nat) : ev (d + 1) M_Kp_pairInOrder [aQ (some a)] h = ex (ev d) k_Kp_pairInOrder 0 [aQ (some a), aU, aU, aU] [] h := rfl
theorem u_Kp_leastOld_0 : ex cal k_Kp_leastOld 0 (aQ r :: ls) (st) h = ex cal k_Kp_leastOld 1 (aQ r :: ls) (aQ r :: st) h := ex_st cal (s := s_ald 0 1) rfl rfl
theorem u_Kp_leastOld_1 : ex cal k_Kp_leastOld 1 (ls) (aQ (some a) :: st) h = gO h a 2 (ex cal k_Kp_leastOld 4 (ls) (gf h a 0 :: st) h) := e_gf cal rfl
theorem u_Kp_leastOld_4 : ex cal k_Kp_leastOld 4 (x0 :: aI v :: ls) (st) h = ex cal k_Kp_leastOld 5 (x0 :: aI v :: ls) (aI v :: st) h := ex_st cal (s := s_ild 1 5) rfl rfl
theorem u_Kp_leastOld_5 : ex cal k_Kp_leastOld 5 (ls) (st) h = ex cal k_Kp_leastOld 7 (ls) (aI 21 :: st) h := e_push cal rfl
theorem u_Kp_leastOld_7 : ex cal k_Kp_leastOld 7 (ls) (aI j :: aI i :: st) h = ex cal k_Kp_leastOld 8 (ls) (aI (i * j) :: st) h := e_bin cal rfl
theorem u_Kp_leastOld_8 : ex cal k_Kp_leastOld 8 (x0 :: x1 :: aI v :: ls) (st) h = ex cal k_Kp_leastOld 9 (x0 :: x1 :: aI v :: ls) (aI v :: st) h := ex_st cal (s := s_ild 2 9) rfl rfl
theorem u_Kp_leastOld_9 : ex cal k_Kp_leastOld 9 (ls) (aI j :: aI i :: st) h = ex cal k_Kp_leastOld 10 (ls) (aI (i + j) :: st) h := e_bin cal rfl
theorem u_Kp_leastOld_10 : ex cal k_Kp_leastOld 10 (ls) (aI i :: aQ (some a) :: st) h = gA h a i (ex cal k_Kp_leastOld 11 (ls) (aI (ai h a (wr i)) :: st) h) := e_ia cal rfl
theorem u_Kp_leastOld_11 (hx : aNl x2 = true) : ex cal k_Kp_leastOld 11 (x0 :: x1 :: x2 :: y :: ls) (aI v :: st) h = ex cal k_Kp_leastOld 12 (x0 :: x1 :: x2 :: aI v :: ls) (st) h := e_ist (ls := x0 :: x1 :: x2 :: y :: ls) (k := 3) rfl hx (by simp only [List.length_cons]; omega)
theorem u_Kp_leastOld_12 : ex cal k_Kp_leastOld 12 (x0 :: aI v :: ls) (st) h = ex cal k_Kp_leastOld 13 (x0 :: aI v :: ls) (aI v :: st) h := ex_st cal (s := s_ild 1 13) rfl rfl
theorem u_Kp_leastOld_13 (hx : aNl x3 = true) : ex cal k_Kp_leastOld 13 (x0 :: x1 :: x2 :: x3 :: y :: ls) (aI v :: st) h = ex cal k_Kp_leastOld 15 (x0 :: x1 :: x2 :: x3 :: aI v :: ls) (st) h := e_ist (ls := x0 :: x1 :: x2 :: x3 :: y :: ls) (k := 4) rfl hx (by simp only [List.length_cons]; omega)
theorem u_Kp_leastOld_15 : ex cal k_Kp_leastOld 15 (x0 :: x1 :: x2 :: x3 :: aI v :: ls) (st) h = ex cal k_Kp_leastOld 17 (x0 :: x1 :: x2 :: x3 :: aI v :: ls) (aI v :: st) h := ex_st cal (s := s_ild 4 17) rfl rfl
theorem u_Kp_leastOld_17 : ex cal k_Kp_leastOld 17 (aQ r :: ls) (st) h = ex cal k_Kp_leastOld 18 (aQ r :: ls) (aQ r :: st) h := ex_st cal (s := s_ald 0 18) rfl rfl
theorem u_Kp_leastOld_18 : ex cal k_Kp_leastOld 18 (ls) (aQ (some a) :: st) h = gO h a 2 (ex cal k_Kp_leastOld 21 (ls) (gf h a 3 :: st) h) := e_gf cal rfl
theorem u_Kp_leastOld_21 : ex cal k_Kp_leastOld 21 (ls) (aQ (some a) :: st) h = gB (isAR h a) (ex cal k_Kp_leastOld 22 (ls) (aI (al h a) :: st) h) := e_len cal rfl
theorem u_Kp_leastOld_22 : ex cal k_Kp_leastOld 22 (ls) (aI j :: aI i :: st) h = if wr i < wr j then ex cal k_Kp_leastOld 25 (ls) (st) h else ex cal k_Kp_leastOld 66 (ls) (st) h := e_icge cal rfl
theorem u_Kp_leastOld_25 : ex cal k_Kp_leastOld 25 (aQ r :: ls) (st) h = ex cal k_Kp_leastOld 26 (aQ r :: ls) (aQ r :: st) h := ex_st cal (s := s_ald 0 26) rfl rfl
theorem u_Kp_leastOld_26 : ex cal k_Kp_leastOld 26 (x0 :: x1 :: x2 :: x3 :: aI v :: ls) (st) h = ex cal k_Kp_leastOld 28 (x0 :: x1 :: x2 :: x3 :: aI v :: ls) (aI v :: st) h := ex_st cal (s := s_ild 4 28) rfl rfl
theorem u_Kp_leastOld_28 : ex cal k_Kp_leastOld 28 (x0 :: x1 :: aI v :: ls) (st) h = ex cal k_Kp_leastOld 29 (x0 :: x1 :: aI v :: ls) (aI v :: st) h := ex_st cal (s := s_ild 2 29) rfl rfl
theorem u_Kp_leastOld_29 (hl : Nat.ble st.length 4 = true) : ex cal k_Kp_leastOld 29 (ls) (aI z1 :: aI z0 :: aQ (some a) :: st) h = gO h a 2 (kk cal k_Kp_leastOld 32 ls st (cal M_Kp_isAlike [aQ (some a), aI z0, aI z1] h)) := e_callV cal (ci := 2) (as := [aI z1, aI z0]) rfl (by decide) rfl (Nat.le_of_ble_eq_true hl)
theorem u_Kp_leastOld_32 : ex cal k_Kp_leastOld 32 (ls) (aI i :: st) h = if wr i = 0 then ex cal k_Kp_leastOld 60 (ls) (st) h else ex cal k_Kp_leastOld 35 (ls) (st) h := e_ifeq cal rfl
theorem u_Kp_leastOld_35 : ex cal k_Kp_leastOld 35 (ls) (st) h = ex cal k_Kp_leastOld 36 (ls) (aI 1 :: st) h := e_push cal rfl
theorem u_Kp_leastOld_36 : ex cal k_Kp_leastOld 36 (aQ r :: ls) (st) h = ex cal k_Kp_leastOld 37 (aQ r :: ls) (aQ r :: st) h := ex_st cal (s := s_ald 0 37) rfl rfl
theorem u_Kp_leastOld_37 : ex cal k_Kp_leastOld 37 (ls) (aQ (some a) :: st) h = gO h a 2 (ex cal k_Kp_leastOld 40 (ls) (gf h a 0 :: st) h) := e_gf cal rfl
theorem u_Kp_leastOld_40 : ex cal k_Kp_leastOld 40 (x0 :: x1 :: x2 :: x3 :: aI v :: ls) (st) h = ex cal k_Kp_leastOld 42 (x0 :: x1 :: x2 :: x3 :: aI v :: ls) (aI v :: st) h := ex_st cal (s := s_ild 4 42) rfl rfl
theorem u_Kp_leastOld_42 : ex cal k_Kp_leastOld 42 (ls) (st) h = ex cal k_Kp_leastOld 43 (ls) (aI 1 :: st) h := e_push cal rfl
theorem u_Kp_leastOld_43 : ex cal k_Kp_leastOld 43 (ls) (aI j :: aI i :: st) h = ex cal k_Kp_leastOld 44 (ls) (aI (i + j) :: st) h := e_bin cal rfl
theorem u_Kp_leastOld_44 : ex cal k_Kp_leastOld 44 (ls) (st) h = ex cal k_Kp_leastOld 46 (ls) (aI 21 :: st) h := e_push cal rfl
theorem u_Kp_leastOld_46 : ex cal k_Kp_leastOld 46 (ls) (aI j :: aI i :: st) h = ex cal k_Kp_leastOld 47 (ls) (aI (i * j) :: st) h := e_bin cal rfl
theorem u_Kp_leastOld_47 : ex cal k_Kp_leastOld 47 (x0 :: x1 :: aI v :: ls) (st) h = ex cal k_Kp_leastOld 48 (x0 :: x1 :: aI v :: ls) (aI v :: st) h := ex_st cal (s := s_ild 2 48) rfl rfl
theorem u_Kp_leastOld_48 : ex cal k_Kp_leastOld 48 (ls) (aI j :: aI i :: st) h = ex cal k_Kp_leastOld 49 (ls) (aI (i + j) :: st) h := e_bin cal rfl
theorem u_Kp_leastOld_49 : ex cal k_Kp_leastOld 49 (ls) (st) h = ex cal k_Kp_leastOld 50 (ls) (aI 1 :: st) h := e_push cal rfl
theorem u_Kp_leastOld_50 : ex cal k_Kp_leastOld 50 (ls) (aI j :: aI i :: st) h = ex cal k_Kp_leastOld 51 (ls) (aI (i + j) :: st) h := e_bin cal rfl
theorem u_Kp_leastOld_51 : ex cal k_Kp_leastOld 51 (ls) (aI i :: aQ (some a) :: st) h = gA h a i (ex cal k_Kp_leastOld 52 (ls) (aI (ai h a (wr i)) :: st) h) := e_ia cal rfl
theorem u_Kp_leastOld_52 : ex cal k_Kp_leastOld 52 (ls) (aI j :: aI i :: st) h = ex cal k_Kp_leastOld 53 (ls) (aI (i + j) :: st) h := e_bin cal rfl
theorem u_Kp_leastOld_53 : ex cal k_Kp_leastOld 53 (x0 :: x1 :: x2 :: aI v :: ls) (st) h = ex cal k_Kp_leastOld 54 (x0 :: x1 :: x2 :: aI v :: ls) (aI v :: st) h := ex_st cal (s := s_ild 3 54) rfl rfl
theorem u_Kp_leastOld_54 : ex cal k_Kp_leastOld 54 (ls) (aI j :: aI i :: st) h = if wr i = wr j then ex cal k_Kp_leastOld 57 (ls) (st) h else ex cal k_Kp_leastOld 60 (ls) (st) h := e_icne cal rfl
theorem u_Kp_leastOld_57 : ex cal k_Kp_leastOld 57 (x0 :: x1 :: x2 :: x3 :: aI v :: ls) (st) h = ex cal k_Kp_leastOld 59 (x0 :: x1 :: x2 :: x3 :: aI v :: ls) (aI v :: st) h := ex_st cal (s := s_ild 4 59) rfl rfl
theorem u_Kp_leastOld_59 : ex cal k_Kp_leastOld 59 (ls) ([aI v]) h = some (some (aI v), h) := e_ret1 cal rfl
theorem u_Kp_leastOld_60 (hx : aNl x3 = true) : ex cal k_Kp_leastOld 60 (x0 :: x1 :: x2 :: x3 :: aI v :: ls) (st) h = ex cal k_Kp_leastOld 63 (x0 :: x1 :: x2 :: x3 :: aI (v + 1) :: ls) (st) h := e_inc (ls := x0 :: x1 :: x2 :: x3 :: aI v :: ls) (k := 4) rfl rfl hx
theorem u_Kp_leastOld_63 : ex cal k_Kp_leastOld 63 (ls) (st) h = ex cal k_Kp_leastOld 15 (ls) (st) h := ex_st cal (s := s_go 15) rfl rfl
theorem u_Kp_leastOld_66 : ex cal k_Kp_leastOld 66 (ls) (st) h = ex cal k_Kp_leastOld 67 (ls) (aI (-1) :: st) h := e_push cal rfl
theorem u_Kp_leastOld_67 : ex cal k_Kp_leastOld 67 (ls) ([aI v]) h = some (some (aI v), h) := e_ret1 cal rfl
theorem n_Kp_leastOld (d : Nat) : ev (d + 1) M_Kp_leastOld [aQ (some a), aI z0, aI z1] h = ex (ev d) k_Kp_leastOld 0 [aQ (some a), aI z0, aI z1, aU, aU] [] h := rfl
theorem u_Kp_pairMoved_0 : ex cal k_Kp_pairMoved 0 (ls) (st) h = ex cal k_Kp_pairMoved 1 (ls) (aI 0 :: st) h := e_push cal rfl
theorem u_Kp_pairMoved_1 (hx : aNl x0 = true) : ex cal k_Kp_pairMoved 1 (x0 :: y :: ls) (aI v :: st) h = ex cal k_Kp_pairMoved 2 (x0 :: aI v :: ls) (st) h := e_ist (ls := x0 :: y :: ls) (k := 1) rfl hx (by simp only [List.length_cons]; omega)
theorem u_Kp_pairMoved_2 : ex cal k_Kp_pairMoved 2 (x0 :: aI v :: ls) (st) h = ex cal k_Kp_pairMoved 3 (x0 :: aI v :: ls) (aI v :: st) h := ex_st cal (s := s_ild 1 3) rfl rfl
theorem u_Kp_pairMoved_3 : ex cal k_Kp_pairMoved 3 (aQ r :: ls) (st) h = ex cal k_Kp_pairMoved 4 (aQ r :: ls) (aQ r :: st) h := ex_st cal (s := s_ald 0 4) rfl rfl
theorem u_Kp_pairMoved_4 : ex cal k_Kp_pairMoved 4 (ls) (aQ (some a) :: st) h = gO h a 2 (ex cal k_Kp_pairMoved 7 (ls) (gf h a 5 :: st) h) := e_gf cal rfl
theorem u_Kp_pairMoved_7 : ex cal k_Kp_pairMoved 7 (ls) (aI j :: aI i :: st) h = if wr i < wr j then ex cal k_Kp_pairMoved 10 (ls) (st) h else ex cal k_Kp_pairMoved 61 (ls) (st) h := e_icge cal rfl
theorem u_Kp_pairMoved_10 : ex cal k_Kp_pairMoved 10 (aQ r :: ls) (st) h = ex cal k_Kp_pairMoved 11 (aQ r :: ls) (aQ r :: st) h := ex_st cal (s := s_ald 0 11) rfl rfl
theorem u_Kp_pairMoved_11 : ex cal k_Kp_pairMoved 11 (ls) (aQ (some a) :: st) h = gO h a 2 (ex cal k_Kp_pairMoved 14 (ls) (gf h a 1 :: st) h) := e_gf cal rfl
theorem u_Kp_pairMoved_14 : ex cal k_Kp_pairMoved 14 (x0 :: aI v :: ls) (st) h = ex cal k_Kp_pairMoved 15 (x0 :: aI v :: ls) (aI v :: st) h := ex_st cal (s := s_ild 1 15) rfl rfl
theorem u_Kp_pairMoved_15 : ex cal k_Kp_pairMoved 15 (ls) (aI i :: aQ (some a) :: st) h = gA h a i (ex cal k_Kp_pairMoved 16 (ls) (aI (ai h a (wr i)) :: st) h) := e_ia cal rfl
theorem u_Kp_pairMoved_16 : ex cal k_Kp_pairMoved 16 (ls) (st) h = ex cal k_Kp_pairMoved 17 (ls) (aI (-1) :: st) h := e_push cal rfl
theorem u_Kp_pairMoved_17 : ex cal k_Kp_pairMoved 17 (ls) (aI j :: aI i :: st) h = if wr i = wr j then ex cal k_Kp_pairMoved 20 (ls) (st) h else ex cal k_Kp_pairMoved 55 (ls) (st) h := e_icne cal rfl
theorem u_Kp_pairMoved_20 : ex cal k_Kp_pairMoved 20 (aQ r :: ls) (st) h = ex cal k_Kp_pairMoved 21 (aQ r :: ls) (aQ r :: st) h := ex_st cal (s := s_ald 0 21) rfl rfl
theorem u_Kp_pairMoved_21 : ex cal k_Kp_pairMoved 21 (aQ r :: ls) (st) h = ex cal k_Kp_pairMoved 22 (aQ r :: ls) (aQ r :: st) h := ex_st cal (s := s_ald 0 22) rfl rfl
theorem u_Kp_pairMoved_22 : ex cal k_Kp_pairMoved 22 (ls) (aQ (some a) :: st) h = gO h a 2 (ex cal k_Kp_pairMoved 25 (ls) (gf h a 4 :: st) h) := e_gf cal rfl
theorem u_Kp_pairMoved_25 : ex cal k_Kp_pairMoved 25 (x0 :: aI v :: ls) (st) h = ex cal k_Kp_pairMoved 26 (x0 :: aI v :: ls) (aI v :: st) h := ex_st cal (s := s_ild 1 26) rfl rfl
theorem u_Kp_pairMoved_26 : ex cal k_Kp_pairMoved 26 (ls) (aI i :: aQ (some a) :: st) h = gA h a i (ex cal k_Kp_pairMoved 27 (ls) (aI (ai h a (wr i)) :: st) h) := e_ia cal rfl
theorem u_Kp_pairMoved_27 (hl : Nat.ble st.length 4 = true) : ex cal k_Kp_pairMoved 27 (ls) (aI z0 :: aQ (some a) :: st) h = gO h a 2 (kk cal k_Kp_pairMoved 30 ls st (cal M_Kp_firstLeftOf [aQ (some a), aI z0] h)) := e_callV cal (ci := 2) (as := [aI z0]) rfl (by decide) rfl (Nat.le_of_ble_eq_true hl)
theorem u_Kp_pairMoved_30 (hx : aNl x1 = true) : ex cal k_Kp_pairMoved 30 (x0 :: x1 :: y :: ls) (aI v :: st) h = ex cal k_Kp_pairMoved 31 (x0 :: x1 :: aI v :: ls) (st) h := e_ist (ls := x0 :: x1 :: y :: ls) (k := 2) rfl hx (by simp only [List.length_cons]; omega)
theorem u_Kp_pairMoved_31 : ex cal k_Kp_pairMoved 31 (aQ r :: ls) (st) h = ex cal k_Kp_pairMoved 32 (aQ r :: ls) (aQ r :: st) h := ex_st cal (s := s_ald 0 32) rfl rfl
theorem u_Kp_pairMoved_32 : ex cal k_Kp_pairMoved 32 (ls) (aQ (some a) :: st) h = gO h a 2 (ex cal k_Kp_pairMoved 35 (ls) (gf h a 1 :: st) h) := e_gf cal rfl
theorem u_Kp_pairMoved_35 : ex cal k_Kp_pairMoved 35 (x0 :: aI v :: ls) (st) h = ex cal k_Kp_pairMoved 36 (x0 :: aI v :: ls) (aI v :: st) h := ex_st cal (s := s_ild 1 36) rfl rfl
theorem u_Kp_pairMoved_36 : ex cal k_Kp_pairMoved 36 (x0 :: x1 :: aI v :: ls) (st) h = ex cal k_Kp_pairMoved 37 (x0 :: x1 :: aI v :: ls) (aI v :: st) h := ex_st cal (s := s_ild 2 37) rfl rfl
theorem u_Kp_pairMoved_37 (h3 : 3 ≤ a) : ex cal k_Kp_pairMoved 37 (ls) (aI v :: aI i :: aQ (some a) :: st) h = gA h a i (ex cal k_Kp_pairMoved 38 (ls) (st) (sa h a (upf (ai h a) (wr i) v))) := e_ias cal rfl h3
theorem u_Kp_pairMoved_38 : ex cal k_Kp_pairMoved 38 (x0 :: x1 :: aI v :: ls) (st) h = ex cal k_Kp_pairMoved 39 (x0 :: x1 :: aI v :: ls) (aI v :: st) h := ex_st cal (s := s_ild 2 39) rfl rfl
theorem u_Kp_pairMoved_39 : ex cal k_Kp_pairMoved 39 (ls) (st) h = ex cal k_Kp_pairMoved 40 (ls) (aI (-1) :: st) h := e_push cal rfl
theorem u_Kp_pairMoved_40 : ex cal k_Kp_pairMoved 40 (ls) (aI j :: aI i :: st) h = if wr i = wr j then ex cal k_Kp_pairMoved 55 (ls) (st) h else ex cal k_Kp_pairMoved 43 (ls) (st) h := e_iceq cal rfl
theorem u_Kp_pairMoved_43 : ex cal k_Kp_pairMoved 43 (aQ r :: ls) (st) h = ex cal k_Kp_pairMoved 44 (aQ r :: ls) (aQ r :: st) h := ex_st cal (s := s_ald 0 44) rfl rfl
theorem u_Kp_pairMoved_44 (hx : aNl y = true) : ex cal k_Kp_pairMoved 44 (ls) (y :: st) h = ex cal k_Kp_pairMoved 45 (ls) (y :: y :: st) h := e_dup rfl hx
theorem u_Kp_pairMoved_45 : ex cal k_Kp_pairMoved 45 (ls) (aQ (some a) :: st) h = gO h a 2 (ex cal k_Kp_pairMoved 48 (ls) (gf h a 2 :: st) h) := e_gf cal rfl
theorem u_Kp_pairMoved_48 : ex cal k_Kp_pairMoved 48 (ls) (st) h = ex cal k_Kp_pairMoved 49 (ls) (aI 1 :: st) h := e_push cal rfl
theorem u_Kp_pairMoved_49 : ex cal k_Kp_pairMoved 49 (x0 :: x1 :: aI v :: ls) (st) h = ex cal k_Kp_pairMoved 50 (x0 :: x1 :: aI v :: ls) (aI v :: st) h := ex_st cal (s := s_ild 2 50) rfl rfl
theorem u_Kp_pairMoved_50 : ex cal k_Kp_pairMoved 50 (ls) (aI j :: aI i :: st) h = ex cal k_Kp_pairMoved 51 (ls) (aI (wshl i j) :: st) h := e_bin cal rfl
theorem u_Kp_pairMoved_51 : ex cal k_Kp_pairMoved 51 (ls) (aI j :: aI i :: st) h = ex cal k_Kp_pairMoved 52 (ls) (aI (wor i j) :: st) h := e_bin cal rfl
theorem u_Kp_pairMoved_52 : ex cal k_Kp_pairMoved 52 (ls) (aI v :: aQ (some a) :: st) h = gO h a 2 (ex cal k_Kp_pairMoved 55 (ls) (st) (pf h a 2 (aI v))) := e_pf1 rfl rfl
theorem u_Kp_pairMoved_55 (hx : aNl x0 = true) : ex cal k_Kp_pairMoved 55 (x0 :: aI v :: ls) (st) h = ex cal k_Kp_pairMoved 58 (x0 :: aI (v + 1) :: ls) (st) h := e_inc (ls := x0 :: aI v :: ls) (k := 1) rfl rfl hx
theorem u_Kp_pairMoved_58 : ex cal k_Kp_pairMoved 58 (ls) (st) h = ex cal k_Kp_pairMoved 2 (ls) (st) h := ex_st cal (s := s_go 2) rfl rfl
theorem u_Kp_pairMoved_61 : ex cal k_Kp_pairMoved 61 (ls) ([]) h = some (none, h) := e_ret0 cal rfl
theorem n_Kp_pairMoved (d : Nat) : ev (d + 1) M_Kp_pairMoved [aQ (some a)] h = ex (ev d) k_Kp_pairMoved 0 [aQ (some a), aU, aU] [] h := rfl
theorem u_Kp_firstLeftOf_0 : ex cal k_Kp_firstLeftOf 0 (ls) (st) h = ex cal k_Kp_firstLeftOf 1 (ls) (aI 0 :: st) h := e_push cal rfl
theorem u_Kp_firstLeftOf_1 (hx : aNl x1 = true) : ex cal k_Kp_firstLeftOf 1 (x0 :: x1 :: y :: ls) (aI v :: st) h = ex cal k_Kp_firstLeftOf 2 (x0 :: x1 :: aI v :: ls) (st) h := e_ist (ls := x0 :: x1 :: y :: ls) (k := 2) rfl hx (by simp only [List.length_cons]; omega)
theorem u_Kp_firstLeftOf_2 : ex cal k_Kp_firstLeftOf 2 (x0 :: x1 :: aI v :: ls) (st) h = ex cal k_Kp_firstLeftOf 3 (x0 :: x1 :: aI v :: ls) (aI v :: st) h := ex_st cal (s := s_ild 2 3) rfl rfl
theorem u_Kp_firstLeftOf_3 : ex cal k_Kp_firstLeftOf 3 (aQ r :: ls) (st) h = ex cal k_Kp_firstLeftOf 4 (aQ r :: ls) (aQ r :: st) h := ex_st cal (s := s_ald 0 4) rfl rfl
theorem u_Kp_firstLeftOf_4 : ex cal k_Kp_firstLeftOf 4 (ls) (aQ (some a) :: st) h = gO h a 2 (ex cal k_Kp_firstLeftOf 7 (ls) (gf h a 3 :: st) h) := e_gf cal rfl
theorem u_Kp_firstLeftOf_7 : ex cal k_Kp_firstLeftOf 7 (ls) (aQ (some a) :: st) h = gB (isAR h a) (ex cal k_Kp_firstLeftOf 8 (ls) (aI (al h a) :: st) h) := e_len cal rfl
theorem u_Kp_firstLeftOf_8 : ex cal k_Kp_firstLeftOf 8 (ls) (aI j :: aI i :: st) h = if wr i < wr j then ex cal k_Kp_firstLeftOf 11 (ls) (st) h else ex cal k_Kp_firstLeftOf 43 (ls) (st) h := e_icge cal rfl
theorem u_Kp_firstLeftOf_11 : ex cal k_Kp_firstLeftOf 11 (aQ r :: ls) (st) h = ex cal k_Kp_firstLeftOf 12 (aQ r :: ls) (aQ r :: st) h := ex_st cal (s := s_ald 0 12) rfl rfl
theorem u_Kp_firstLeftOf_12 : ex cal k_Kp_firstLeftOf 12 (ls) (aQ (some a) :: st) h = gO h a 2 (ex cal k_Kp_firstLeftOf 15 (ls) (gf h a 2 :: st) h) := e_gf cal rfl
theorem u_Kp_firstLeftOf_15 : ex cal k_Kp_firstLeftOf 15 (x0 :: x1 :: aI v :: ls) (st) h = ex cal k_Kp_firstLeftOf 16 (x0 :: x1 :: aI v :: ls) (aI v :: st) h := ex_st cal (s := s_ild 2 16) rfl rfl
theorem u_Kp_firstLeftOf_16 : ex cal k_Kp_firstLeftOf 16 (ls) (aI j :: aI i :: st) h = ex cal k_Kp_firstLeftOf 17 (ls) (aI (wshr i j) :: st) h := e_bin cal rfl
theorem u_Kp_firstLeftOf_17 : ex cal k_Kp_firstLeftOf 17 (ls) (st) h = ex cal k_Kp_firstLeftOf 18 (ls) (aI 1 :: st) h := e_push cal rfl
theorem u_Kp_firstLeftOf_18 : ex cal k_Kp_firstLeftOf 18 (ls) (aI j :: aI i :: st) h = ex cal k_Kp_firstLeftOf 19 (ls) (aI (wand i j) :: st) h := e_bin cal rfl
theorem u_Kp_firstLeftOf_19 : ex cal k_Kp_firstLeftOf 19 (ls) (aI i :: st) h = if wr i = 0 then ex cal k_Kp_firstLeftOf 22 (ls) (st) h else ex cal k_Kp_firstLeftOf 37 (ls) (st) h := e_ifne cal rfl
theorem u_Kp_firstLeftOf_22 : ex cal k_Kp_firstLeftOf 22 (aQ r :: ls) (st) h = ex cal k_Kp_firstLeftOf 23 (aQ r :: ls) (aQ r :: st) h := ex_st cal (s := s_ald 0 23) rfl rfl
theorem u_Kp_firstLeftOf_23 : ex cal k_Kp_firstLeftOf 23 (ls) (aQ (some a) :: st) h = gO h a 2 (ex cal k_Kp_firstLeftOf 26 (ls) (gf h a 3 :: st) h) := e_gf cal rfl
theorem u_Kp_firstLeftOf_26 : ex cal k_Kp_firstLeftOf 26 (x0 :: x1 :: aI v :: ls) (st) h = ex cal k_Kp_firstLeftOf 27 (x0 :: x1 :: aI v :: ls) (aI v :: st) h := ex_st cal (s := s_ild 2 27) rfl rfl
theorem u_Kp_firstLeftOf_27 : ex cal k_Kp_firstLeftOf 27 (ls) (aI i :: aQ (some a) :: st) h = gR h a 2 i (ex cal k_Kp_firstLeftOf 28 (ls) (aQ (ra h a (wr i)) :: st) h) := e_ra cal rfl
theorem u_Kp_firstLeftOf_28 : ex cal k_Kp_firstLeftOf 28 (ls) (aQ (some a) :: st) h = gO h a 3 (ex cal k_Kp_firstLeftOf 31 (ls) (gf h a 0 :: st) h) := e_gf cal rfl
theorem u_Kp_firstLeftOf_31 : ex cal k_Kp_firstLeftOf 31 (x0 :: aI v :: ls) (st) h = ex cal k_Kp_firstLeftOf 32 (x0 :: aI v :: ls) (aI v :: st) h := ex_st cal (s := s_ild 1 32) rfl rfl
theorem u_Kp_firstLeftOf_32 : ex cal k_Kp_firstLeftOf 32 (ls) (aI j :: aI i :: st) h = if wr i = wr j then ex cal k_Kp_firstLeftOf 35 (ls) (st) h else ex cal k_Kp_firstLeftOf 37 (ls) (st) h := e_icne cal rfl
theorem u_Kp_firstLeftOf_35 : ex cal k_Kp_firstLeftOf 35 (x0 :: x1 :: aI v :: ls) (st) h = ex cal k_Kp_firstLeftOf 36 (x0 :: x1 :: aI v :: ls) (aI v :: st) h := ex_st cal (s := s_ild 2 36) rfl rfl
theorem u_Kp_firstLeftOf_36 : ex cal k_Kp_firstLeftOf 36 (ls) ([aI v]) h = some (some (aI v), h) := e_ret1 cal rfl
theorem u_Kp_firstLeftOf_37 (hx : aNl x1 = true) : ex cal k_Kp_firstLeftOf 37 (x0 :: x1 :: aI v :: ls) (st) h = ex cal k_Kp_firstLeftOf 40 (x0 :: x1 :: aI (v + 1) :: ls) (st) h := e_inc (ls := x0 :: x1 :: aI v :: ls) (k := 2) rfl rfl hx
theorem u_Kp_firstLeftOf_40 : ex cal k_Kp_firstLeftOf 40 (ls) (st) h = ex cal k_Kp_firstLeftOf 2 (ls) (st) h := ex_st cal (s := s_go 2) rfl rfl
theorem u_Kp_firstLeftOf_43 : ex cal k_Kp_firstLeftOf 43 (ls) (st) h = ex cal k_Kp_firstLeftOf 44 (ls) (aI (-1) :: st) h := e_push cal rfl
theorem u_Kp_firstLeftOf_44 : ex cal k_Kp_firstLeftOf 44 (ls) ([aI v]) h = some (some (aI v), h) := e_ret1 cal rfl
theorem n_Kp_firstLeftOf (d : Nat) : ev (d + 1) M_Kp_firstLeftOf [aQ (some a), aI z0] h = ex (ev d) k_Kp_firstLeftOf 0 [aQ (some a), aI z0, aU] [] h := rfl
theorem u_Kp_newPage_0 : ex cal k_Kp_newPage 0 (aQ r :: ls) (st) h = ex cal k_Kp_newPage 1 (aQ r :: ls) (aQ r :: st) h := ex_st cal (s := s_ald 0 1) rfl rfl
theorem u_Kp_newPage_1 : ex cal k_Kp_newPage 1 (ls) (aQ (some a) :: st) h = gO h a 2 (ex cal k_Kp_newPage 4 (ls) (gf h a 5 :: st) h) := e_gf cal rfl
theorem u_Kp_newPage_4 (h1 : 0 ≤ i) (h2 : i ≤ 100000) : ex cal k_Kp_newPage 4 (ls) (aI i :: st) h = ex cal k_Kp_newPage 7 (ls) (aQ (some (aSz h)) :: st) (aNew h (.inr (.inr (2, i.toNat, fun _ => none))) i.toNat) := e_nar cal rfl h1 h2
theorem u_Kp_newPage_7 (hx : aNl x1 = true) : ex cal k_Kp_newPage 7 (x0 :: x1 :: y :: ls) (aQ r :: st) h = ex cal k_Kp_newPage 8 (x0 :: x1 :: aQ r :: ls) (st) h := e_ast (ls := x0 :: x1 :: y :: ls) (k := 2) rfl hx (by simp only [List.length_cons]; omega)
theorem u_Kp_newPage_8 : ex cal k_Kp_newPage 8 (x0 :: aQ r :: ls) (st) h = ex cal k_Kp_newPage 9 (x0 :: aQ r :: ls) (aQ r :: st) h := ex_st cal (s := s_ald 1 9) rfl rfl
theorem u_Kp_newPage_9 (hl : Nat.ble st.length 4 = true) : ex cal k_Kp_newPage 9 (ls) (aQ (some a) :: st) h = gO h a 1 (kk cal k_Kp_newPage 12 ls st (cal M_Ch_firstMarks [aQ (some a)] h)) := e_callV cal (ci := 1) (as := []) rfl (by decide) rfl (Nat.le_of_ble_eq_true hl)
theorem u_Kp_newPage_12 (hx : aNl x2 = true) : ex cal k_Kp_newPage 12 (x0 :: x1 :: x2 :: y :: ls) (aQ r :: st) h = ex cal k_Kp_newPage 13 (x0 :: x1 :: x2 :: aQ r :: ls) (st) h := e_ast (ls := x0 :: x1 :: x2 :: y :: ls) (k := 3) rfl hx (by simp only [List.length_cons]; omega)
theorem u_Kp_newPage_13 : ex cal k_Kp_newPage 13 (ls) (st) h = ex cal k_Kp_newPage 14 (ls) (aI 0 :: st) h := e_push cal rfl
theorem u_Kp_newPage_14 (hx : aNl x3 = true) : ex cal k_Kp_newPage 14 (x0 :: x1 :: x2 :: x3 :: y :: ls) (aI v :: st) h = ex cal k_Kp_newPage 16 (x0 :: x1 :: x2 :: x3 :: aI v :: ls) (st) h := e_ist (ls := x0 :: x1 :: x2 :: x3 :: y :: ls) (k := 4) rfl hx (by simp only [List.length_cons]; omega)
theorem u_Kp_newPage_16 : ex cal k_Kp_newPage 16 (x0 :: x1 :: x2 :: x3 :: aI v :: ls) (st) h = ex cal k_Kp_newPage 18 (x0 :: x1 :: x2 :: x3 :: aI v :: ls) (aI v :: st) h := ex_st cal (s := s_ild 4 18) rfl rfl
theorem u_Kp_newPage_18 : ex cal k_Kp_newPage 18 (aQ r :: ls) (st) h = ex cal k_Kp_newPage 19 (aQ r :: ls) (aQ r :: st) h := ex_st cal (s := s_ald 0 19) rfl rfl
theorem u_Kp_newPage_19 : ex cal k_Kp_newPage 19 (ls) (aQ (some a) :: st) h = gO h a 2 (ex cal k_Kp_newPage 22 (ls) (gf h a 5 :: st) h) := e_gf cal rfl
theorem u_Kp_newPage_22 : ex cal k_Kp_newPage 22 (ls) (aI j :: aI i :: st) h = if wr i < wr j then ex cal k_Kp_newPage 25 (ls) (st) h else ex cal k_Kp_newPage 103 (ls) (st) h := e_icge cal rfl
theorem u_Kp_newPage_25 : ex cal k_Kp_newPage 25 (aQ r :: ls) (st) h = ex cal k_Kp_newPage 26 (aQ r :: ls) (aQ r :: st) h := ex_st cal (s := s_ald 0 26) rfl rfl
theorem u_Kp_newPage_26 : ex cal k_Kp_newPage 26 (ls) (aQ (some a) :: st) h = gO h a 2 (ex cal k_Kp_newPage 29 (ls) (gf h a 1 :: st) h) := e_gf cal rfl
theorem u_Kp_newPage_29 : ex cal k_Kp_newPage 29 (x0 :: x1 :: x2 :: x3 :: aI v :: ls) (st) h = ex cal k_Kp_newPage 31 (x0 :: x1 :: x2 :: x3 :: aI v :: ls) (aI v :: st) h := ex_st cal (s := s_ild 4 31) rfl rfl
theorem u_Kp_newPage_31 : ex cal k_Kp_newPage 31 (ls) (aI i :: aQ (some a) :: st) h = gA h a i (ex cal k_Kp_newPage 32 (ls) (aI (ai h a (wr i)) :: st) h) := e_ia cal rfl
theorem u_Kp_newPage_32 (hx : aNl x4 = true) : ex cal k_Kp_newPage 32 (x0 :: x1 :: x2 :: x3 :: x4 :: y :: ls) (aI v :: st) h = ex cal k_Kp_newPage 34 (x0 :: x1 :: x2 :: x3 :: x4 :: aI v :: ls) (st) h := e_ist (ls := x0 :: x1 :: x2 :: x3 :: x4 :: y :: ls) (k := 5) rfl hx (by simp only [List.length_cons]; omega)
theorem u_Kp_newPage_34 : ex cal k_Kp_newPage 34 (x0 :: x1 :: x2 :: x3 :: x4 :: aI v :: ls) (st) h = ex cal k_Kp_newPage 36 (x0 :: x1 :: x2 :: x3 :: x4 :: aI v :: ls) (aI v :: st) h := ex_st cal (s := s_ild 5 36) rfl rfl
theorem u_Kp_newPage_36 : ex cal k_Kp_newPage 36 (ls) (st) h = ex cal k_Kp_newPage 37 (ls) (aI (-1) :: st) h := e_push cal rfl
theorem u_Kp_newPage_37 : ex cal k_Kp_newPage 37 (ls) (aI j :: aI i :: st) h = if wr i = wr j then ex cal k_Kp_newPage 40 (ls) (st) h else ex cal k_Kp_newPage 66 (ls) (st) h := e_icne cal rfl
theorem u_Kp_newPage_40 : ex cal k_Kp_newPage 40 (x0 :: x1 :: aQ r :: ls) (st) h = ex cal k_Kp_newPage 41 (x0 :: x1 :: aQ r :: ls) (aQ r :: st) h := ex_st cal (s := s_ald 2 41) rfl rfl
theorem u_Kp_newPage_41 : ex cal k_Kp_newPage 41 (x0 :: x1 :: x2 :: x3 :: aI v :: ls) (st) h = ex cal k_Kp_newPage 43 (x0 :: x1 :: x2 :: x3 :: aI v :: ls) (aI v :: st) h := ex_st cal (s := s_ild 4 43) rfl rfl
theorem u_Kp_newPage_43 : ex cal k_Kp_newPage 43 (ls) (st) h = ex cal k_Kp_newPage 46 (ls) (aQ (some (aSz h)) :: st) (aNew h (.inl (3, aDf 3)) (aNf 3)) := e_new cal rfl
theorem u_Kp_newPage_46 (hx : aNl y = true) : ex cal k_Kp_newPage 46 (ls) (y :: st) h = ex cal k_Kp_newPage 47 (ls) (y :: y :: st) h := e_dup rfl hx
theorem u_Kp_newPage_47 : ex cal k_Kp_newPage 47 (aQ r :: ls) (st) h = ex cal k_Kp_newPage 48 (aQ r :: ls) (aQ r :: st) h := ex_st cal (s := s_ald 0 48) rfl rfl
theorem u_Kp_newPage_48 : ex cal k_Kp_newPage 48 (ls) (aQ (some a) :: st) h = gO h a 2 (ex cal k_Kp_newPage 51 (ls) (gf h a 4 :: st) h) := e_gf cal rfl
theorem u_Kp_newPage_51 : ex cal k_Kp_newPage 51 (x0 :: x1 :: x2 :: x3 :: aI v :: ls) (st) h = ex cal k_Kp_newPage 53 (x0 :: x1 :: x2 :: x3 :: aI v :: ls) (aI v :: st) h := ex_st cal (s := s_ild 4 53) rfl rfl
theorem u_Kp_newPage_53 : ex cal k_Kp_newPage 53 (ls) (aI i :: aQ (some a) :: st) h = gA h a i (ex cal k_Kp_newPage 54 (ls) (aI (ai h a (wr i)) :: st) h) := e_ia cal rfl
theorem u_Kp_newPage_54 : ex cal k_Kp_newPage 54 (x0 :: aQ r :: ls) (st) h = ex cal k_Kp_newPage 55 (x0 :: aQ r :: ls) (aQ r :: st) h := ex_st cal (s := s_ald 1 55) rfl rfl
theorem u_Kp_newPage_55 : ex cal k_Kp_newPage 55 (ls) (aQ (some a) :: st) h = gO h a 1 (ex cal k_Kp_newPage 58 (ls) (gf h a 0 :: st) h) := e_gf cal rfl
theorem u_Kp_newPage_58 : ex cal k_Kp_newPage 58 (x0 :: x1 :: x2 :: aQ r :: ls) (st) h = ex cal k_Kp_newPage 59 (x0 :: x1 :: x2 :: aQ r :: ls) (aQ r :: st) h := ex_st cal (s := s_ald 3 59) rfl rfl
theorem u_Kp_newPage_59 (hl : Nat.ble st.length 4 = true) : ex cal k_Kp_newPage 59 (ls) (aQ r2 :: aI z1 :: aI z0 :: aQ (some a) :: st) h = kk cal k_Kp_newPage 62 ls st (cal M_Li_init [aQ (some a), aI z0, aI z1, aQ r2] h) := e_callI cal (as := [aQ r2, aI z1, aI z0]) rfl rfl (Nat.le_of_ble_eq_true hl)
theorem u_Kp_newPage_62 : ex cal k_Kp_newPage 62 (ls) (aQ r :: aI i :: aQ (some a) :: st) h = gR h a 2 i (gB (okQ h 2 r) (ex cal k_Kp_newPage 63 (ls) (st) (sr h a (upf (ra h a) (wr i) r)))) := e_ras cal rfl
theorem u_Kp_newPage_63 : ex cal k_Kp_newPage 63 (ls) (st) h = ex cal k_Kp_newPage 97 (ls) (st) h := ex_st cal (s := s_go 97) rfl rfl
theorem u_Kp_newPage_66 : ex cal k_Kp_newPage 66 (x0 :: x1 :: aQ r :: ls) (st) h = ex cal k_Kp_newPage 67 (x0 :: x1 :: aQ r :: ls) (aQ r :: st) h := ex_st cal (s := s_ald 2 67) rfl rfl
theorem u_Kp_newPage_67 : ex cal k_Kp_newPage 67 (x0 :: x1 :: x2 :: x3 :: aI v :: ls) (st) h = ex cal k_Kp_newPage 69 (x0 :: x1 :: x2 :: x3 :: aI v :: ls) (aI v :: st) h := ex_st cal (s := s_ild 4 69) rfl rfl
theorem u_Kp_newPage_69 : ex cal k_Kp_newPage 69 (aQ r :: ls) (st) h = ex cal k_Kp_newPage 70 (aQ r :: ls) (aQ r :: st) h := ex_st cal (s := s_ald 0 70) rfl rfl
theorem u_Kp_newPage_70 : ex cal k_Kp_newPage 70 (ls) (aQ (some a) :: st) h = gO h a 2 (ex cal k_Kp_newPage 73 (ls) (gf h a 3 :: st) h) := e_gf cal rfl
theorem u_Kp_newPage_73 : ex cal k_Kp_newPage 73 (x0 :: x1 :: x2 :: x3 :: x4 :: aI v :: ls) (st) h = ex cal k_Kp_newPage 75 (x0 :: x1 :: x2 :: x3 :: x4 :: aI v :: ls) (aI v :: st) h := ex_st cal (s := s_ild 5 75) rfl rfl
theorem u_Kp_newPage_75 : ex cal k_Kp_newPage 75 (ls) (aI i :: aQ (some a) :: st) h = gR h a 2 i (ex cal k_Kp_newPage 76 (ls) (aQ (ra h a (wr i)) :: st) h) := e_ra cal rfl
theorem u_Kp_newPage_76 : ex cal k_Kp_newPage 76 (aQ r :: ls) (st) h = ex cal k_Kp_newPage 77 (aQ r :: ls) (aQ r :: st) h := ex_st cal (s := s_ald 0 77) rfl rfl
theorem u_Kp_newPage_77 : ex cal k_Kp_newPage 77 (ls) (aQ (some a) :: st) h = gO h a 2 (ex cal k_Kp_newPage 80 (ls) (gf h a 4 :: st) h) := e_gf cal rfl
theorem u_Kp_newPage_80 : ex cal k_Kp_newPage 80 (x0 :: x1 :: x2 :: x3 :: aI v :: ls) (st) h = ex cal k_Kp_newPage 82 (x0 :: x1 :: x2 :: x3 :: aI v :: ls) (aI v :: st) h := ex_st cal (s := s_ild 4 82) rfl rfl
theorem u_Kp_newPage_82 : ex cal k_Kp_newPage 82 (ls) (aI i :: aQ (some a) :: st) h = gA h a i (ex cal k_Kp_newPage 83 (ls) (aI (ai h a (wr i)) :: st) h) := e_ia cal rfl
theorem u_Kp_newPage_83 (hl : Nat.ble st.length 4 = true) : ex cal k_Kp_newPage 83 (ls) (aI z0 :: aQ (some a) :: st) h = gO h a 3 (kk cal k_Kp_newPage 86 ls st (cal M_Li_withText [aQ (some a), aI z0] h)) := e_callV cal (ci := 3) (as := [aI z0]) rfl (by decide) rfl (Nat.le_of_ble_eq_true hl)
theorem u_Kp_newPage_86 : ex cal k_Kp_newPage 86 (ls) (aQ r :: aI i :: aQ (some a) :: st) h = gR h a 2 i (gB (okQ h 2 r) (ex cal k_Kp_newPage 87 (ls) (st) (sr h a (upf (ra h a) (wr i) r)))) := e_ras cal rfl
theorem u_Kp_newPage_87 : ex cal k_Kp_newPage 87 (x0 :: aQ r :: ls) (st) h = ex cal k_Kp_newPage 88 (x0 :: aQ r :: ls) (aQ r :: st) h := ex_st cal (s := s_ald 1 88) rfl rfl
theorem u_Kp_newPage_88 (hx : aNl y = true) : ex cal k_Kp_newPage 88 (ls) (y :: st) h = ex cal k_Kp_newPage 89 (ls) (y :: y :: st) h := e_dup rfl hx
theorem u_Kp_newPage_89 : ex cal k_Kp_newPage 89 (ls) (aQ (some a) :: st) h = gO h a 1 (ex cal k_Kp_newPage 92 (ls) (gf h a 7 :: st) h) := e_gf cal rfl
theorem u_Kp_newPage_92 : ex cal k_Kp_newPage 92 (ls) (st) h = ex cal k_Kp_newPage 93 (ls) (aI 1 :: st) h := e_push cal rfl
theorem u_Kp_newPage_93 : ex cal k_Kp_newPage 93 (ls) (aI j :: aI i :: st) h = ex cal k_Kp_newPage 94 (ls) (aI (i + j) :: st) h := e_bin cal rfl
theorem u_Kp_newPage_94 : ex cal k_Kp_newPage 94 (ls) (aI v :: aQ (some a) :: st) h = gO h a 1 (ex cal k_Kp_newPage 97 (ls) (st) (pf h a 7 (aI v))) := e_pf1 rfl rfl
theorem u_Kp_newPage_97 (hx : aNl x3 = true) : ex cal k_Kp_newPage 97 (x0 :: x1 :: x2 :: x3 :: aI v :: ls) (st) h = ex cal k_Kp_newPage 100 (x0 :: x1 :: x2 :: x3 :: aI (v + 1) :: ls) (st) h := e_inc (ls := x0 :: x1 :: x2 :: x3 :: aI v :: ls) (k := 4) rfl rfl hx
theorem u_Kp_newPage_100 : ex cal k_Kp_newPage 100 (ls) (st) h = ex cal k_Kp_newPage 16 (ls) (st) h := ex_st cal (s := s_go 16) rfl rfl
theorem u_Kp_newPage_103 : ex cal k_Kp_newPage 103 (ls) (st) h = ex cal k_Kp_newPage 106 (ls) (aQ (some (aSz h)) :: st) (aNew h (.inl (4, aDf 4)) (aNf 4)) := e_new cal rfl
theorem u_Kp_newPage_106 (hx : aNl y = true) : ex cal k_Kp_newPage 106 (ls) (y :: st) h = ex cal k_Kp_newPage 107 (ls) (y :: y :: st) h := e_dup rfl hx
theorem u_Kp_newPage_107 : ex cal k_Kp_newPage 107 (x0 :: x1 :: aQ r :: ls) (st) h = ex cal k_Kp_newPage 108 (x0 :: x1 :: aQ r :: ls) (aQ r :: st) h := ex_st cal (s := s_ald 2 108) rfl rfl
theorem u_Kp_newPage_108 (hl : Nat.ble st.length 4 = true) : ex cal k_Kp_newPage 108 (ls) (aQ r0 :: aQ (some a) :: st) h = kk cal k_Kp_newPage 111 ls st (cal M_Pg_init [aQ (some a), aQ r0] h) := e_callI cal (as := [aQ r0]) rfl rfl (Nat.le_of_ble_eq_true hl)
theorem u_Kp_newPage_111 : ex cal k_Kp_newPage 111 (ls) ([aQ r]) h = some (some (aQ r), h) := e_ret3 cal rfl
theorem n_Kp_newPage (d : Nat) : ev (d + 1) M_Kp_newPage [aQ (some a), aQ r0] h = ex (ev d) k_Kp_newPage 0 [aQ (some a), aQ r0, aU, aU, aU, aU] [] h := rfl
theorem u_Li_init_0 : ex cal k_Li_init 0 (aQ r :: ls) (st) h = ex cal k_Li_init 1 (aQ r :: ls) (aQ r :: st) h := ex_st cal (s := s_ald 0 1) rfl rfl
theorem u_Li_init_1 (hl : Nat.ble st.length 4 = true) : ex cal k_Li_init 1 (ls) (aQ (some a) :: st) h = ex cal k_Li_init 4 (ls) (st) h := e_oi cal rfl (Nat.le_of_ble_eq_true hl)
theorem u_Li_init_4 : ex cal k_Li_init 4 (aQ r :: ls) (st) h = ex cal k_Li_init 5 (aQ r :: ls) (aQ r :: st) h := ex_st cal (s := s_ald 0 5) rfl rfl
theorem u_Li_init_5 : ex cal k_Li_init 5 (x0 :: aI v :: ls) (st) h = ex cal k_Li_init 6 (x0 :: aI v :: ls) (aI v :: st) h := ex_st cal (s := s_ild 1 6) rfl rfl
theorem u_Li_init_6 : ex cal k_Li_init 6 (ls) (aI v :: aQ (some a) :: st) h = gO h a 3 (ex cal k_Li_init 9 (ls) (st) (pf h a 0 (aI v))) := e_pf1 rfl rfl
theorem u_Li_init_9 : ex cal k_Li_init 9 (aQ r :: ls) (st) h = ex cal k_Li_init 10 (aQ r :: ls) (aQ r :: st) h := ex_st cal (s := s_ald 0 10) rfl rfl
theorem u_Li_init_10 : ex cal k_Li_init 10 (x0 :: x1 :: aI v :: ls) (st) h = ex cal k_Li_init 11 (x0 :: x1 :: aI v :: ls) (aI v :: st) h := ex_st cal (s := s_ild 2 11) rfl rfl
theorem u_Li_init_11 : ex cal k_Li_init 11 (ls) (aI v :: aQ (some a) :: st) h = gO h a 3 (ex cal k_Li_init 14 (ls) (st) (pf h a 1 (aI v))) := e_pf1 rfl rfl
theorem u_Li_init_14 : ex cal k_Li_init 14 (aQ r :: ls) (st) h = ex cal k_Li_init 15 (aQ r :: ls) (aQ r :: st) h := ex_st cal (s := s_ald 0 15) rfl rfl
theorem u_Li_init_15 : ex cal k_Li_init 15 (x0 :: x1 :: x2 :: aQ r :: ls) (st) h = ex cal k_Li_init 16 (x0 :: x1 :: x2 :: aQ r :: ls) (aQ r :: st) h := ex_st cal (s := s_ald 3 16) rfl rfl
theorem u_Li_init_16 : ex cal k_Li_init 16 (ls) (aQ r :: aQ (some a) :: st) h = gO h a 3 (ex cal k_Li_init 19 (ls) (st) (pf h a 2 (aQ r))) := e_pf1 rfl rfl
theorem u_Li_init_19 : ex cal k_Li_init 19 (ls) ([]) h = some (none, h) := e_ret0 cal rfl
theorem n_Li_init (d : Nat) : ev (d + 1) M_Li_init [aQ (some a), aI z0, aI z1, aQ r2] h = ex (ev d) k_Li_init 0 [aQ (some a), aI z0, aI z1, aQ r2] [] h := rfl
theorem u_Li_markCount_0 : ex cal k_Li_markCount 0 (aQ r :: ls) (st) h = ex cal k_Li_markCount 1 (aQ r :: ls) (aQ r :: st) h := ex_st cal (s := s_ald 0 1) rfl rfl
theorem u_Li_markCount_1 : ex cal k_Li_markCount 1 (ls) (aQ (some a) :: st) h = gO h a 3 (ex cal k_Li_markCount 4 (ls) (gf h a 2 :: st) h) := e_gf cal rfl
theorem u_Li_markCount_4 : ex cal k_Li_markCount 4 (ls) (aQ (some a) :: st) h = gB (isAR h a) (ex cal k_Li_markCount 5 (ls) (aI (al h a) :: st) h) := e_len cal rfl
theorem u_Li_markCount_5 : ex cal k_Li_markCount 5 (ls) (st) h = ex cal k_Li_markCount 6 (ls) (aI 3 :: st) h := e_push cal rfl
theorem u_Li_markCount_6 (h0 : j ≠ 0) (h1 : -2147483648 ≤ j) (h2 : j < 2147483648) : ex cal k_Li_markCount 6 (ls) (aI j :: aI i :: st) h = ex cal k_Li_markCount 7 (ls) (aI ((wr i).tdiv j) :: st) h := e_div2 rfl h0 h1 h2
theorem u_Li_markCount_7 : ex cal k_Li_markCount 7 (ls) ([aI v]) h = some (some (aI v), h) := e_ret1 cal rfl
theorem n_Li_markCount (d : Nat) : ev (d + 1) M_Li_markCount [aQ (some a)] h = ex (ev d) k_Li_markCount 0 [aQ (some a)] [] h := rfl
theorem u_Li_markTold_0 : ex cal k_Li_markTold 0 (x0 :: aI v :: ls) (st) h = ex cal k_Li_markTold 1 (x0 :: aI v :: ls) (aI v :: st) h := ex_st cal (s := s_ild 1 1) rfl rfl
theorem u_Li_markTold_1 : ex cal k_Li_markTold 1 (ls) (aI i :: st) h = if wr i < 0 then ex cal k_Li_markTold 21 (ls) (st) h else ex cal k_Li_markTold 4 (ls) (st) h := e_iflt cal rfl
theorem u_Li_markTold_4 : ex cal k_Li_markTold 4 (x0 :: aI v :: ls) (st) h = ex cal k_Li_markTold 5 (x0 :: aI v :: ls) (aI v :: st) h := ex_st cal (s := s_ild 1 5) rfl rfl
theorem u_Li_markTold_5 : ex cal k_Li_markTold 5 (aQ r :: ls) (st) h = ex cal k_Li_markTold 6 (aQ r :: ls) (aQ r :: st) h := ex_st cal (s := s_ald 0 6) rfl rfl
theorem u_Li_markTold_6 (hl : Nat.ble st.length 4 = true) : ex cal k_Li_markTold 6 (ls) (aQ (some a) :: st) h = gO h a 3 (kk cal k_Li_markTold 9 ls st (cal M_Li_markCount [aQ (some a)] h)) := e_callV cal (ci := 3) (as := []) rfl (by decide) rfl (Nat.le_of_ble_eq_true hl)
theorem u_Li_markTold_9 : ex cal k_Li_markTold 9 (ls) (aI j :: aI i :: st) h = if wr i < wr j then ex cal k_Li_markTold 12 (ls) (st) h else ex cal k_Li_markTold 21 (ls) (st) h := e_icge cal rfl
theorem u_Li_markTold_12 : ex cal k_Li_markTold 12 (x0 :: x1 :: aI v :: ls) (st) h = ex cal k_Li_markTold 13 (x0 :: x1 :: aI v :: ls) (aI v :: st) h := ex_st cal (s := s_ild 2 13) rfl rfl
theorem u_Li_markTold_13 : ex cal k_Li_markTold 13 (ls) (aI i :: st) h = if wr i < 0 then ex cal k_Li_markTold 21 (ls) (st) h else ex cal k_Li_markTold 16 (ls) (st) h := e_iflt cal rfl
theorem u_Li_markTold_16 : ex cal k_Li_markTold 16 (x0 :: x1 :: aI v :: ls) (st) h = ex cal k_Li_markTold 17 (x0 :: x1 :: aI v :: ls) (aI v :: st) h := ex_st cal (s := s_ild 2 17) rfl rfl
theorem u_Li_markTold_17 : ex cal k_Li_markTold 17 (ls) (st) h = ex cal k_Li_markTold 18 (ls) (aI 3 :: st) h := e_push cal rfl
theorem u_Li_markTold_18 : ex cal k_Li_markTold 18 (ls) (aI j :: aI i :: st) h = if wr i < wr j then ex cal k_Li_markTold 23 (ls) (st) h else ex cal k_Li_markTold 21 (ls) (st) h := e_iclt cal rfl
theorem u_Li_markTold_21 : ex cal k_Li_markTold 21 (ls) (st) h = ex cal k_Li_markTold 22 (ls) (aI (-1) :: st) h := e_push cal rfl
theorem u_Li_markTold_22 : ex cal k_Li_markTold 22 (ls) ([aI v]) h = some (some (aI v), h) := e_ret1 cal rfl
theorem u_Li_markTold_23 : ex cal k_Li_markTold 23 (aQ r :: ls) (st) h = ex cal k_Li_markTold 24 (aQ r :: ls) (aQ r :: st) h := ex_st cal (s := s_ald 0 24) rfl rfl
theorem u_Li_markTold_24 : ex cal k_Li_markTold 24 (ls) (aQ (some a) :: st) h = gO h a 3 (ex cal k_Li_markTold 27 (ls) (gf h a 2 :: st) h) := e_gf cal rfl
theorem u_Li_markTold_27 : ex cal k_Li_markTold 27 (x0 :: aI v :: ls) (st) h = ex cal k_Li_markTold 28 (x0 :: aI v :: ls) (aI v :: st) h := ex_st cal (s := s_ild 1 28) rfl rfl
theorem u_Li_markTold_28 : ex cal k_Li_markTold 28 (ls) (st) h = ex cal k_Li_markTold 29 (ls) (aI 3 :: st) h := e_push cal rfl
theorem u_Li_markTold_29 : ex cal k_Li_markTold 29 (ls) (aI j :: aI i :: st) h = ex cal k_Li_markTold 30 (ls) (aI (i * j) :: st) h := e_bin cal rfl
theorem u_Li_markTold_30 : ex cal k_Li_markTold 30 (x0 :: x1 :: aI v :: ls) (st) h = ex cal k_Li_markTold 31 (x0 :: x1 :: aI v :: ls) (aI v :: st) h := ex_st cal (s := s_ild 2 31) rfl rfl
theorem u_Li_markTold_31 : ex cal k_Li_markTold 31 (ls) (aI j :: aI i :: st) h = ex cal k_Li_markTold 32 (ls) (aI (i + j) :: st) h := e_bin cal rfl
theorem u_Li_markTold_32 : ex cal k_Li_markTold 32 (ls) (aI i :: aQ (some a) :: st) h = gA h a i (ex cal k_Li_markTold 33 (ls) (aI (ai h a (wr i)) :: st) h) := e_ia cal rfl
theorem u_Li_markTold_33 : ex cal k_Li_markTold 33 (ls) ([aI v]) h = some (some (aI v), h) := e_ret1 cal rfl
theorem n_Li_markTold (d : Nat) : ev (d + 1) M_Li_markTold [aQ (some a), aI z0, aI z1] h = ex (ev d) k_Li_markTold 0 [aQ (some a), aI z0, aI z1] [] h := rfl
theorem u_Li_pointsOf_0 : ex cal k_Li_pointsOf 0 (ls) (st) h = ex cal k_Li_pointsOf 1 (ls) (aI 0 :: st) h := e_push cal rfl
theorem u_Li_pointsOf_1 (hx : aNl x3 = true) : ex cal k_Li_pointsOf 1 (x0 :: x1 :: x2 :: x3 :: y :: ls) (aI v :: st) h = ex cal k_Li_pointsOf 3 (x0 :: x1 :: x2 :: x3 :: aI v :: ls) (st) h := e_ist (ls := x0 :: x1 :: x2 :: x3 :: y :: ls) (k := 4) rfl hx (by simp only [List.length_cons]; omega)
theorem u_Li_pointsOf_3 : ex cal k_Li_pointsOf 3 (x0 :: x1 :: x2 :: aI v :: ls) (st) h = ex cal k_Li_pointsOf 4 (x0 :: x1 :: x2 :: aI v :: ls) (aI v :: st) h := ex_st cal (s := s_ild 3 4) rfl rfl
theorem u_Li_pointsOf_4 : ex cal k_Li_pointsOf 4 (ls) (st) h = ex cal k_Li_pointsOf 5 (ls) (aI 3 :: st) h := e_push cal rfl
theorem u_Li_pointsOf_5 : ex cal k_Li_pointsOf 5 (ls) (aI j :: aI i :: st) h = ex cal k_Li_pointsOf 6 (ls) (aI (i * j) :: st) h := e_bin cal rfl
theorem u_Li_pointsOf_6 (hx : aNl x4 = true) : ex cal k_Li_pointsOf 6 (x0 :: x1 :: x2 :: x3 :: x4 :: y :: ls) (aI v :: st) h = ex cal k_Li_pointsOf 8 (x0 :: x1 :: x2 :: x3 :: x4 :: aI v :: ls) (st) h := e_ist (ls := x0 :: x1 :: x2 :: x3 :: x4 :: y :: ls) (k := 5) rfl hx (by simp only [List.length_cons]; omega)
theorem u_Li_pointsOf_8 : ex cal k_Li_pointsOf 8 (x0 :: x1 :: x2 :: x3 :: x4 :: aI v :: ls) (st) h = ex cal k_Li_pointsOf 10 (x0 :: x1 :: x2 :: x3 :: x4 :: aI v :: ls) (aI v :: st) h := ex_st cal (s := s_ild 5 10) rfl rfl
theorem u_Li_pointsOf_10 : ex cal k_Li_pointsOf 10 (ls) (st) h = ex cal k_Li_pointsOf 11 (ls) (aI 2 :: st) h := e_push cal rfl
theorem u_Li_pointsOf_11 : ex cal k_Li_pointsOf 11 (ls) (aI j :: aI i :: st) h = ex cal k_Li_pointsOf 12 (ls) (aI (i + j) :: st) h := e_bin cal rfl
theorem u_Li_pointsOf_12 : ex cal k_Li_pointsOf 12 (aQ r :: ls) (st) h = ex cal k_Li_pointsOf 13 (aQ r :: ls) (aQ r :: st) h := ex_st cal (s := s_ald 0 13) rfl rfl
theorem u_Li_pointsOf_13 : ex cal k_Li_pointsOf 13 (ls) (aQ (some a) :: st) h = gO h a 3 (ex cal k_Li_pointsOf 16 (ls) (gf h a 2 :: st) h) := e_gf cal rfl
theorem u_Li_pointsOf_16 : ex cal k_Li_pointsOf 16 (ls) (aQ (some a) :: st) h = gB (isAR h a) (ex cal k_Li_pointsOf 17 (ls) (aI (al h a) :: st) h) := e_len cal rfl
theorem u_Li_pointsOf_17 : ex cal k_Li_pointsOf 17 (ls) (aI j :: aI i :: st) h = if wr i < wr j then ex cal k_Li_pointsOf 20 (ls) (st) h else ex cal k_Li_pointsOf 75 (ls) (st) h := e_icge cal rfl
theorem u_Li_pointsOf_20 : ex cal k_Li_pointsOf 20 (aQ r :: ls) (st) h = ex cal k_Li_pointsOf 21 (aQ r :: ls) (aQ r :: st) h := ex_st cal (s := s_ald 0 21) rfl rfl
theorem u_Li_pointsOf_21 : ex cal k_Li_pointsOf 21 (ls) (aQ (some a) :: st) h = gO h a 3 (ex cal k_Li_pointsOf 24 (ls) (gf h a 2 :: st) h) := e_gf cal rfl
theorem u_Li_pointsOf_24 : ex cal k_Li_pointsOf 24 (x0 :: x1 :: x2 :: x3 :: x4 :: aI v :: ls) (st) h = ex cal k_Li_pointsOf 26 (x0 :: x1 :: x2 :: x3 :: x4 :: aI v :: ls) (aI v :: st) h := ex_st cal (s := s_ild 5 26) rfl rfl
theorem u_Li_pointsOf_26 : ex cal k_Li_pointsOf 26 (ls) (st) h = ex cal k_Li_pointsOf 27 (ls) (aI 2 :: st) h := e_push cal rfl
theorem u_Li_pointsOf_27 : ex cal k_Li_pointsOf 27 (ls) (aI j :: aI i :: st) h = ex cal k_Li_pointsOf 28 (ls) (aI (i + j) :: st) h := e_bin cal rfl
theorem u_Li_pointsOf_28 : ex cal k_Li_pointsOf 28 (ls) (aI i :: aQ (some a) :: st) h = gA h a i (ex cal k_Li_pointsOf 29 (ls) (aI (ai h a (wr i)) :: st) h) := e_ia cal rfl
theorem u_Li_pointsOf_29 : ex cal k_Li_pointsOf 29 (x0 :: x1 :: aI v :: ls) (st) h = ex cal k_Li_pointsOf 30 (x0 :: x1 :: aI v :: ls) (aI v :: st) h := ex_st cal (s := s_ild 2 30) rfl rfl
theorem u_Li_pointsOf_30 : ex cal k_Li_pointsOf 30 (aQ r :: ls) (st) h = ex cal k_Li_pointsOf 31 (aQ r :: ls) (aQ r :: st) h := ex_st cal (s := s_ald 0 31) rfl rfl
theorem u_Li_pointsOf_31 : ex cal k_Li_pointsOf 31 (ls) (aQ (some a) :: st) h = gO h a 3 (ex cal k_Li_pointsOf 34 (ls) (gf h a 2 :: st) h) := e_gf cal rfl
theorem u_Li_pointsOf_34 : ex cal k_Li_pointsOf 34 (x0 :: x1 :: x2 :: x3 :: x4 :: aI v :: ls) (st) h = ex cal k_Li_pointsOf 36 (x0 :: x1 :: x2 :: x3 :: x4 :: aI v :: ls) (aI v :: st) h := ex_st cal (s := s_ild 5 36) rfl rfl
theorem u_Li_pointsOf_36 : ex cal k_Li_pointsOf 36 (ls) (st) h = ex cal k_Li_pointsOf 37 (ls) (aI 1 :: st) h := e_push cal rfl
theorem u_Li_pointsOf_37 : ex cal k_Li_pointsOf 37 (ls) (aI j :: aI i :: st) h = ex cal k_Li_pointsOf 38 (ls) (aI (i + j) :: st) h := e_bin cal rfl
theorem u_Li_pointsOf_38 : ex cal k_Li_pointsOf 38 (ls) (aI i :: aQ (some a) :: st) h = gA h a i (ex cal k_Li_pointsOf 39 (ls) (aI (ai h a (wr i)) :: st) h) := e_ia cal rfl
theorem u_Li_pointsOf_39 : ex cal k_Li_pointsOf 39 (ls) (aI j :: aI i :: st) h = ex cal k_Li_pointsOf 40 (ls) (aI (i - j) :: st) h := e_bin cal rfl
theorem u_Li_pointsOf_40 : ex cal k_Li_pointsOf 40 (ls) (st) h = ex cal k_Li_pointsOf 42 (ls) (aI 10 :: st) h := e_push cal rfl
theorem u_Li_pointsOf_42 (h0 : j ≠ 0) (h1 : -2147483648 ≤ j) (h2 : j < 2147483648) : ex cal k_Li_pointsOf 42 (ls) (aI j :: aI i :: st) h = ex cal k_Li_pointsOf 43 (ls) (aI ((wr i).tdiv j) :: st) h := e_div2 rfl h0 h1 h2
theorem u_Li_pointsOf_43 : ex cal k_Li_pointsOf 43 (ls) (aI j :: aI i :: st) h = ex cal k_Li_pointsOf 44 (ls) (aI (i - j) :: st) h := e_bin cal rfl
theorem u_Li_pointsOf_44 (hx : aNl x5 = true) : ex cal k_Li_pointsOf 44 (x0 :: x1 :: x2 :: x3 :: x4 :: x5 :: y :: ls) (aI v :: st) h = ex cal k_Li_pointsOf 46 (x0 :: x1 :: x2 :: x3 :: x4 :: x5 :: aI v :: ls) (st) h := e_ist (ls := x0 :: x1 :: x2 :: x3 :: x4 :: x5 :: y :: ls) (k := 6) rfl hx (by simp only [List.length_cons]; omega)
theorem u_Li_pointsOf_46 : ex cal k_Li_pointsOf 46 (aQ r :: ls) (st) h = ex cal k_Li_pointsOf 47 (aQ r :: ls) (aQ r :: st) h := ex_st cal (s := s_ald 0 47) rfl rfl
theorem u_Li_pointsOf_47 : ex cal k_Li_pointsOf 47 (ls) (aQ (some a) :: st) h = gO h a 3 (ex cal k_Li_pointsOf 50 (ls) (gf h a 2 :: st) h) := e_gf cal rfl
theorem u_Li_pointsOf_50 : ex cal k_Li_pointsOf 50 (x0 :: x1 :: x2 :: x3 :: x4 :: aI v :: ls) (st) h = ex cal k_Li_pointsOf 52 (x0 :: x1 :: x2 :: x3 :: x4 :: aI v :: ls) (aI v :: st) h := ex_st cal (s := s_ild 5 52) rfl rfl
theorem u_Li_pointsOf_52 : ex cal k_Li_pointsOf 52 (ls) (aI i :: aQ (some a) :: st) h = gA h a i (ex cal k_Li_pointsOf 53 (ls) (aI (ai h a (wr i)) :: st) h) := e_ia cal rfl
theorem u_Li_pointsOf_53 : ex cal k_Li_pointsOf 53 (x0 :: aI v :: ls) (st) h = ex cal k_Li_pointsOf 54 (x0 :: aI v :: ls) (aI v :: st) h := ex_st cal (s := s_ild 1 54) rfl rfl
theorem u_Li_pointsOf_54 : ex cal k_Li_pointsOf 54 (ls) (aI j :: aI i :: st) h = if wr i = wr j then ex cal k_Li_pointsOf 57 (ls) (st) h else ex cal k_Li_pointsOf 69 (ls) (st) h := e_icne cal rfl
theorem u_Li_pointsOf_57 : ex cal k_Li_pointsOf 57 (x0 :: x1 :: x2 :: x3 :: x4 :: x5 :: aI v :: ls) (st) h = ex cal k_Li_pointsOf 59 (x0 :: x1 :: x2 :: x3 :: x4 :: x5 :: aI v :: ls) (aI v :: st) h := ex_st cal (s := s_ild 6 59) rfl rfl
theorem u_Li_pointsOf_59 : ex cal k_Li_pointsOf 59 (ls) (aI i :: st) h = if 0 < wr i then ex cal k_Li_pointsOf 62 (ls) (st) h else ex cal k_Li_pointsOf 69 (ls) (st) h := e_ifle cal rfl
theorem u_Li_pointsOf_62 : ex cal k_Li_pointsOf 62 (x0 :: x1 :: x2 :: x3 :: aI v :: ls) (st) h = ex cal k_Li_pointsOf 64 (x0 :: x1 :: x2 :: x3 :: aI v :: ls) (aI v :: st) h := ex_st cal (s := s_ild 4 64) rfl rfl
theorem u_Li_pointsOf_64 : ex cal k_Li_pointsOf 64 (x0 :: x1 :: x2 :: x3 :: x4 :: x5 :: aI v :: ls) (st) h = ex cal k_Li_pointsOf 66 (x0 :: x1 :: x2 :: x3 :: x4 :: x5 :: aI v :: ls) (aI v :: st) h := ex_st cal (s := s_ild 6 66) rfl rfl
theorem u_Li_pointsOf_66 : ex cal k_Li_pointsOf 66 (ls) (aI j :: aI i :: st) h = ex cal k_Li_pointsOf 67 (ls) (aI (i + j) :: st) h := e_bin cal rfl
theorem u_Li_pointsOf_67 (hx : aNl x3 = true) : ex cal k_Li_pointsOf 67 (x0 :: x1 :: x2 :: x3 :: y :: ls) (aI v :: st) h = ex cal k_Li_pointsOf 69 (x0 :: x1 :: x2 :: x3 :: aI v :: ls) (st) h := e_ist (ls := x0 :: x1 :: x2 :: x3 :: y :: ls) (k := 4) rfl hx (by simp only [List.length_cons]; omega)
theorem u_Li_pointsOf_69 (hx : aNl x4 = true) : ex cal k_Li_pointsOf 69 (x0 :: x1 :: x2 :: x3 :: x4 :: aI v :: ls) (st) h = ex cal k_Li_pointsOf 72 (x0 :: x1 :: x2 :: x3 :: x4 :: aI (v + 3) :: ls) (st) h := e_inc (ls := x0 :: x1 :: x2 :: x3 :: x4 :: aI v :: ls) (k := 5) rfl rfl hx
theorem u_Li_pointsOf_72 : ex cal k_Li_pointsOf 72 (ls) (st) h = ex cal k_Li_pointsOf 8 (ls) (st) h := ex_st cal (s := s_go 8) rfl rfl
theorem u_Li_pointsOf_75 : ex cal k_Li_pointsOf 75 (x0 :: x1 :: x2 :: x3 :: aI v :: ls) (st) h = ex cal k_Li_pointsOf 77 (x0 :: x1 :: x2 :: x3 :: aI v :: ls) (aI v :: st) h := ex_st cal (s := s_ild 4 77) rfl rfl
theorem u_Li_pointsOf_77 : ex cal k_Li_pointsOf 77 (ls) ([aI v]) h = some (some (aI v), h) := e_ret1 cal rfl
theorem n_Li_pointsOf (d : Nat) : ev (d + 1) M_Li_pointsOf [aQ (some a), aI z0, aI z1, aI z2] h = ex (ev d) k_Li_pointsOf 0 [aQ (some a), aI z0, aI z1, aI z2, aU, aU, aU] [] h := rfl
theorem u_Li_pointsIfRead_0 : ex cal k_Li_pointsIfRead 0 (aQ r :: ls) (st) h = ex cal k_Li_pointsIfRead 1 (aQ r :: ls) (aQ r :: st) h := ex_st cal (s := s_ald 0 1) rfl rfl
theorem u_Li_pointsIfRead_1 : ex cal k_Li_pointsIfRead 1 (x0 :: aI v :: ls) (st) h = ex cal k_Li_pointsIfRead 2 (x0 :: aI v :: ls) (aI v :: st) h := ex_st cal (s := s_ild 1 2) rfl rfl
theorem u_Li_pointsIfRead_2 : ex cal k_Li_pointsIfRead 2 (x0 :: x1 :: aI v :: ls) (st) h = ex cal k_Li_pointsIfRead 3 (x0 :: x1 :: aI v :: ls) (aI v :: st) h := ex_st cal (s := s_ild 2 3) rfl rfl
theorem u_Li_pointsIfRead_3 : ex cal k_Li_pointsIfRead 3 (aQ r :: ls) (st) h = ex cal k_Li_pointsIfRead 4 (aQ r :: ls) (aQ r :: st) h := ex_st cal (s := s_ald 0 4) rfl rfl
theorem u_Li_pointsIfRead_4 (hl : Nat.ble st.length 4 = true) : ex cal k_Li_pointsIfRead 4 (ls) (aQ (some a) :: st) h = gO h a 3 (kk cal k_Li_pointsIfRead 7 ls st (cal M_Li_marksToGo [aQ (some a)] h)) := e_callV cal (ci := 3) (as := []) rfl (by decide) rfl (Nat.le_of_ble_eq_true hl)
theorem u_Li_pointsIfRead_7 (hl : Nat.ble st.length 4 = true) : ex cal k_Li_pointsIfRead 7 (ls) (aI z2 :: aI z1 :: aI z0 :: aQ (some a) :: st) h = gO h a 3 (kk cal k_Li_pointsIfRead 10 ls st (cal M_Li_pointsOf [aQ (some a), aI z0, aI z1, aI z2] h)) := e_callV cal (ci := 3) (as := [aI z2, aI z1, aI z0]) rfl (by decide) rfl (Nat.le_of_ble_eq_true hl)
theorem u_Li_pointsIfRead_10 : ex cal k_Li_pointsIfRead 10 (ls) (st) h = ex cal k_Li_pointsIfRead 11 (ls) (aI 3 :: st) h := e_push cal rfl
theorem u_Li_pointsIfRead_11 : ex cal k_Li_pointsIfRead 11 (ls) (aI j :: aI i :: st) h = ex cal k_Li_pointsIfRead 12 (ls) (aI (i + j) :: st) h := e_bin cal rfl
theorem u_Li_pointsIfRead_12 : ex cal k_Li_pointsIfRead 12 (ls) ([aI v]) h = some (some (aI v), h) := e_ret1 cal rfl
theorem n_Li_pointsIfRead (d : Nat) : ev (d + 1) M_Li_pointsIfRead [aQ (some a), aI z0, aI z1] h = ex (ev d) k_Li_pointsIfRead 0 [aQ (some a), aI z0, aI z1] [] h := rfl
theorem u_Li_withText_0 : ex cal k_Li_withText 0 (x0 :: aI v :: ls) (st) h = ex cal k_Li_withText 1 (x0 :: aI v :: ls) (aI v :: st) h := ex_st cal (s := s_ild 1 1) rfl rfl
theorem u_Li_withText_1 : ex cal k_Li_withText 1 (aQ r :: ls) (st) h = ex cal k_Li_withText 2 (aQ r :: ls) (aQ r :: st) h := ex_st cal (s := s_ald 0 2) rfl rfl
theorem u_Li_withText_2 : ex cal k_Li_withText 2 (ls) (aQ (some a) :: st) h = gO h a 3 (ex cal k_Li_withText 5 (ls) (gf h a 0 :: st) h) := e_gf cal rfl
theorem u_Li_withText_5 : ex cal k_Li_withText 5 (ls) (aI j :: aI i :: st) h = if wr i = wr j then ex cal k_Li_withText 8 (ls) (st) h else ex cal k_Li_withText 12 (ls) (st) h := e_icne cal rfl
theorem u_Li_withText_8 : ex cal k_Li_withText 8 (aQ r :: ls) (st) h = ex cal k_Li_withText 9 (aQ r :: ls) (aQ r :: st) h := ex_st cal (s := s_ald 0 9) rfl rfl
theorem u_Li_withText_9 : ex cal k_Li_withText 9 (ls) (st) h = ex cal k_Li_withText 28 (ls) (st) h := ex_st cal (s := s_go 28) rfl rfl
theorem u_Li_withText_12 : ex cal k_Li_withText 12 (ls) (st) h = ex cal k_Li_withText 15 (ls) (aQ (some (aSz h)) :: st) (aNew h (.inl (3, aDf 3)) (aNf 3)) := e_new cal rfl
theorem u_Li_withText_15 (hx : aNl y = true) : ex cal k_Li_withText 15 (ls) (y :: st) h = ex cal k_Li_withText 16 (ls) (y :: y :: st) h := e_dup rfl hx
theorem u_Li_withText_16 : ex cal k_Li_withText 16 (x0 :: aI v :: ls) (st) h = ex cal k_Li_withText 17 (x0 :: aI v :: ls) (aI v :: st) h := ex_st cal (s := s_ild 1 17) rfl rfl
theorem u_Li_withText_17 : ex cal k_Li_withText 17 (aQ r :: ls) (st) h = ex cal k_Li_withText 18 (aQ r :: ls) (aQ r :: st) h := ex_st cal (s := s_ald 0 18) rfl rfl
theorem u_Li_withText_18 : ex cal k_Li_withText 18 (ls) (aQ (some a) :: st) h = gO h a 3 (ex cal k_Li_withText 21 (ls) (gf h a 1 :: st) h) := e_gf cal rfl
theorem u_Li_withText_21 : ex cal k_Li_withText 21 (aQ r :: ls) (st) h = ex cal k_Li_withText 22 (aQ r :: ls) (aQ r :: st) h := ex_st cal (s := s_ald 0 22) rfl rfl
theorem u_Li_withText_22 : ex cal k_Li_withText 22 (ls) (aQ (some a) :: st) h = gO h a 3 (ex cal k_Li_withText 25 (ls) (gf h a 2 :: st) h) := e_gf cal rfl
theorem u_Li_withText_25 (hl : Nat.ble st.length 4 = true) : ex cal k_Li_withText 25 (ls) (aQ r2 :: aI z1 :: aI z0 :: aQ (some a) :: st) h = kk cal k_Li_withText 28 ls st (cal M_Li_init [aQ (some a), aI z0, aI z1, aQ r2] h) := e_callI cal (as := [aQ r2, aI z1, aI z0]) rfl rfl (Nat.le_of_ble_eq_true hl)
theorem u_Li_withText_28 : ex cal k_Li_withText 28 (ls) ([aQ r]) h = some (some (aQ r), h) := e_ret3 cal rfl
theorem n_Li_withText (d : Nat) : ev (d + 1) M_Li_withText [aQ (some a), aI z0] h = ex (ev d) k_Li_withText 0 [aQ (some a), aI z0] [] h := rfl
theorem u_Li_readBy_0 : ex cal k_Li_readBy 0 (aQ r :: ls) (st) h = ex cal k_Li_readBy 1 (aQ r :: ls) (aQ r :: st) h := ex_st cal (s := s_ald 0 1) rfl rfl
theorem u_Li_readBy_1 (hl : Nat.ble st.length 4 = true) : ex cal k_Li_readBy 1 (ls) (aQ (some a) :: st) h = gO h a 3 (kk cal k_Li_readBy 4 ls st (cal M_Li_marksToGo [aQ (some a)] h)) := e_callV cal (ci := 3) (as := []) rfl (by decide) rfl (Nat.le_of_ble_eq_true hl)
theorem u_Li_readBy_4 : ex cal k_Li_readBy 4 (ls) (st) h = ex cal k_Li_readBy 5 (ls) (aI 3 :: st) h := e_push cal rfl
theorem u_Li_readBy_5 : ex cal k_Li_readBy 5 (ls) (aI j :: aI i :: st) h = ex cal k_Li_readBy 6 (ls) (aI (i * j) :: st) h := e_bin cal rfl
theorem u_Li_readBy_6 (hx : aNl x2 = true) : ex cal k_Li_readBy 6 (x0 :: x1 :: x2 :: y :: ls) (aI v :: st) h = ex cal k_Li_readBy 7 (x0 :: x1 :: x2 :: aI v :: ls) (st) h := e_ist (ls := x0 :: x1 :: x2 :: y :: ls) (k := 3) rfl hx (by simp only [List.length_cons]; omega)
theorem u_Li_readBy_7 : ex cal k_Li_readBy 7 (aQ r :: ls) (st) h = ex cal k_Li_readBy 8 (aQ r :: ls) (aQ r :: st) h := ex_st cal (s := s_ald 0 8) rfl rfl
theorem u_Li_readBy_8 : ex cal k_Li_readBy 8 (ls) (aQ (some a) :: st) h = gO h a 3 (ex cal k_Li_readBy 11 (ls) (gf h a 2 :: st) h) := e_gf cal rfl
theorem u_Li_readBy_11 : ex cal k_Li_readBy 11 (ls) (aQ (some a) :: st) h = gB (isAR h a) (ex cal k_Li_readBy 12 (ls) (aI (al h a) :: st) h) := e_len cal rfl
theorem u_Li_readBy_12 : ex cal k_Li_readBy 12 (x0 :: x1 :: x2 :: aI v :: ls) (st) h = ex cal k_Li_readBy 13 (x0 :: x1 :: x2 :: aI v :: ls) (aI v :: st) h := ex_st cal (s := s_ild 3 13) rfl rfl
theorem u_Li_readBy_13 : ex cal k_Li_readBy 13 (ls) (aI j :: aI i :: st) h = ex cal k_Li_readBy 14 (ls) (aI (i - j) :: st) h := e_bin cal rfl
theorem u_Li_readBy_14 (hx : aNl x3 = true) : ex cal k_Li_readBy 14 (x0 :: x1 :: x2 :: x3 :: y :: ls) (aI v :: st) h = ex cal k_Li_readBy 16 (x0 :: x1 :: x2 :: x3 :: aI v :: ls) (st) h := e_ist (ls := x0 :: x1 :: x2 :: x3 :: y :: ls) (k := 4) rfl hx (by simp only [List.length_cons]; omega)
theorem u_Li_readBy_16 : ex cal k_Li_readBy 16 (x0 :: x1 :: x2 :: x3 :: aI v :: ls) (st) h = ex cal k_Li_readBy 18 (x0 :: x1 :: x2 :: x3 :: aI v :: ls) (aI v :: st) h := ex_st cal (s := s_ild 4 18) rfl rfl
theorem u_Li_readBy_18 : ex cal k_Li_readBy 18 (ls) (st) h = ex cal k_Li_readBy 19 (ls) (aI 3 :: st) h := e_push cal rfl
theorem u_Li_readBy_19 : ex cal k_Li_readBy 19 (ls) (aI j :: aI i :: st) h = ex cal k_Li_readBy 20 (ls) (aI (i + j) :: st) h := e_bin cal rfl
theorem u_Li_readBy_20 (h1 : 0 ≤ i) (h2 : i ≤ 100000) : ex cal k_Li_readBy 20 (ls) (aI i :: st) h = ex cal k_Li_readBy 22 (ls) (aQ (some (aSz h)) :: st) (aNew h (.inr (.inl (i.toNat, fun _ => 0))) i.toNat) := e_nai cal rfl h1 h2
theorem u_Li_readBy_22 (hx : aNl x4 = true) : ex cal k_Li_readBy 22 (x0 :: x1 :: x2 :: x3 :: x4 :: y :: ls) (aQ r :: st) h = ex cal k_Li_readBy 24 (x0 :: x1 :: x2 :: x3 :: x4 :: aQ r :: ls) (st) h := e_ast (ls := x0 :: x1 :: x2 :: x3 :: x4 :: y :: ls) (k := 5) rfl hx (by simp only [List.length_cons]; omega)
theorem u_Li_readBy_24 : ex cal k_Li_readBy 24 (aQ r :: ls) (st) h = ex cal k_Li_readBy 25 (aQ r :: ls) (aQ r :: st) h := ex_st cal (s := s_ald 0 25) rfl rfl
theorem u_Li_readBy_25 : ex cal k_Li_readBy 25 (ls) (aQ (some a) :: st) h = gO h a 3 (ex cal k_Li_readBy 28 (ls) (gf h a 2 :: st) h) := e_gf cal rfl
theorem u_Li_readBy_28 : ex cal k_Li_readBy 28 (x0 :: x1 :: x2 :: aI v :: ls) (st) h = ex cal k_Li_readBy 29 (x0 :: x1 :: x2 :: aI v :: ls) (aI v :: st) h := ex_st cal (s := s_ild 3 29) rfl rfl
theorem u_Li_readBy_29 : ex cal k_Li_readBy 29 (x0 :: x1 :: x2 :: x3 :: x4 :: aQ r :: ls) (st) h = ex cal k_Li_readBy 31 (x0 :: x1 :: x2 :: x3 :: x4 :: aQ r :: ls) (aQ r :: st) h := ex_st cal (s := s_ald 5 31) rfl rfl
theorem u_Li_readBy_31 : ex cal k_Li_readBy 31 (ls) (st) h = ex cal k_Li_readBy 32 (ls) (aI 0 :: st) h := e_push cal rfl
theorem u_Li_readBy_32 : ex cal k_Li_readBy 32 (x0 :: x1 :: x2 :: x3 :: aI v :: ls) (st) h = ex cal k_Li_readBy 34 (x0 :: x1 :: x2 :: x3 :: aI v :: ls) (aI v :: st) h := ex_st cal (s := s_ild 4 34) rfl rfl
theorem u_Li_readBy_34 (hl : Nat.ble st.length 4 = true) : ex cal k_Li_readBy 34 (ls) (aI c :: aI j :: aQ (some b) :: aI i :: aQ (some a) :: st) h = gB (okC h a b i j c) (ex cal k_Li_readBy 37 (ls) (st) (sa h b (cpf (ai h a) (ai h b) (wr i) (wr j) (wr c)))) := e_cpy cal rfl (Nat.le_of_ble_eq_true hl)
theorem u_Li_readBy_37 : ex cal k_Li_readBy 37 (x0 :: x1 :: x2 :: x3 :: x4 :: aQ r :: ls) (st) h = ex cal k_Li_readBy 39 (x0 :: x1 :: x2 :: x3 :: x4 :: aQ r :: ls) (aQ r :: st) h := ex_st cal (s := s_ald 5 39) rfl rfl
theorem u_Li_readBy_39 : ex cal k_Li_readBy 39 (x0 :: x1 :: x2 :: x3 :: aI v :: ls) (st) h = ex cal k_Li_readBy 41 (x0 :: x1 :: x2 :: x3 :: aI v :: ls) (aI v :: st) h := ex_st cal (s := s_ild 4 41) rfl rfl
theorem u_Li_readBy_41 : ex cal k_Li_readBy 41 (x0 :: aI v :: ls) (st) h = ex cal k_Li_readBy 42 (x0 :: aI v :: ls) (aI v :: st) h := ex_st cal (s := s_ild 1 42) rfl rfl
theorem u_Li_readBy_42 (h3 : 3 ≤ a) : ex cal k_Li_readBy 42 (ls) (aI v :: aI i :: aQ (some a) :: st) h = gA h a i (ex cal k_Li_readBy 43 (ls) (st) (sa h a (upf (ai h a) (wr i) v))) := e_ias cal rfl h3
theorem u_Li_readBy_43 : ex cal k_Li_readBy 43 (x0 :: x1 :: x2 :: x3 :: x4 :: aQ r :: ls) (st) h = ex cal k_Li_readBy 45 (x0 :: x1 :: x2 :: x3 :: x4 :: aQ r :: ls) (aQ r :: st) h := ex_st cal (s := s_ald 5 45) rfl rfl
theorem u_Li_readBy_45 : ex cal k_Li_readBy 45 (x0 :: x1 :: x2 :: x3 :: aI v :: ls) (st) h = ex cal k_Li_readBy 47 (x0 :: x1 :: x2 :: x3 :: aI v :: ls) (aI v :: st) h := ex_st cal (s := s_ild 4 47) rfl rfl
theorem u_Li_readBy_47 : ex cal k_Li_readBy 47 (ls) (st) h = ex cal k_Li_readBy 48 (ls) (aI 1 :: st) h := e_push cal rfl
theorem u_Li_readBy_48 : ex cal k_Li_readBy 48 (ls) (aI j :: aI i :: st) h = ex cal k_Li_readBy 49 (ls) (aI (i + j) :: st) h := e_bin cal rfl
theorem u_Li_readBy_49 : ex cal k_Li_readBy 49 (x0 :: x1 :: aI v :: ls) (st) h = ex cal k_Li_readBy 50 (x0 :: x1 :: aI v :: ls) (aI v :: st) h := ex_st cal (s := s_ild 2 50) rfl rfl
theorem u_Li_readBy_50 (h3 : 3 ≤ a) : ex cal k_Li_readBy 50 (ls) (aI v :: aI i :: aQ (some a) :: st) h = gA h a i (ex cal k_Li_readBy 51 (ls) (st) (sa h a (upf (ai h a) (wr i) v))) := e_ias cal rfl h3
theorem u_Li_readBy_51 : ex cal k_Li_readBy 51 (x0 :: x1 :: x2 :: x3 :: x4 :: aQ r :: ls) (st) h = ex cal k_Li_readBy 53 (x0 :: x1 :: x2 :: x3 :: x4 :: aQ r :: ls) (aQ r :: st) h := ex_st cal (s := s_ald 5 53) rfl rfl
theorem u_Li_readBy_53 : ex cal k_Li_readBy 53 (x0 :: x1 :: x2 :: x3 :: aI v :: ls) (st) h = ex cal k_Li_readBy 55 (x0 :: x1 :: x2 :: x3 :: aI v :: ls) (aI v :: st) h := ex_st cal (s := s_ild 4 55) rfl rfl
theorem u_Li_readBy_55 : ex cal k_Li_readBy 55 (ls) (st) h = ex cal k_Li_readBy 56 (ls) (aI 2 :: st) h := e_push cal rfl
theorem u_Li_readBy_56 : ex cal k_Li_readBy 56 (ls) (aI j :: aI i :: st) h = ex cal k_Li_readBy 57 (ls) (aI (i + j) :: st) h := e_bin cal rfl
theorem u_Li_readBy_57 : ex cal k_Li_readBy 57 (ls) (st) h = ex cal k_Li_readBy 58 (ls) (aI 3 :: st) h := e_push cal rfl
theorem u_Li_readBy_58 (h3 : 3 ≤ a) : ex cal k_Li_readBy 58 (ls) (aI v :: aI i :: aQ (some a) :: st) h = gA h a i (ex cal k_Li_readBy 59 (ls) (st) (sa h a (upf (ai h a) (wr i) v))) := e_ias cal rfl h3
theorem u_Li_readBy_59 : ex cal k_Li_readBy 59 (ls) (st) h = ex cal k_Li_readBy 62 (ls) (aQ (some (aSz h)) :: st) (aNew h (.inl (3, aDf 3)) (aNf 3)) := e_new cal rfl
theorem u_Li_readBy_62 (hx : aNl y = true) : ex cal k_Li_readBy 62 (ls) (y :: st) h = ex cal k_Li_readBy 63 (ls) (y :: y :: st) h := e_dup rfl hx
theorem u_Li_readBy_63 : ex cal k_Li_readBy 63 (aQ r :: ls) (st) h = ex cal k_Li_readBy 64 (aQ r :: ls) (aQ r :: st) h := ex_st cal (s := s_ald 0 64) rfl rfl
theorem u_Li_readBy_64 : ex cal k_Li_readBy 64 (ls) (aQ (some a) :: st) h = gO h a 3 (ex cal k_Li_readBy 67 (ls) (gf h a 0 :: st) h) := e_gf cal rfl
theorem u_Li_readBy_67 : ex cal k_Li_readBy 67 (aQ r :: ls) (st) h = ex cal k_Li_readBy 68 (aQ r :: ls) (aQ r :: st) h := ex_st cal (s := s_ald 0 68) rfl rfl
theorem u_Li_readBy_68 : ex cal k_Li_readBy 68 (ls) (aQ (some a) :: st) h = gO h a 3 (ex cal k_Li_readBy 71 (ls) (gf h a 1 :: st) h) := e_gf cal rfl
theorem u_Li_readBy_71 : ex cal k_Li_readBy 71 (x0 :: x1 :: x2 :: x3 :: x4 :: aQ r :: ls) (st) h = ex cal k_Li_readBy 73 (x0 :: x1 :: x2 :: x3 :: x4 :: aQ r :: ls) (aQ r :: st) h := ex_st cal (s := s_ald 5 73) rfl rfl
theorem u_Li_readBy_73 (hl : Nat.ble st.length 4 = true) : ex cal k_Li_readBy 73 (ls) (aQ r2 :: aI z1 :: aI z0 :: aQ (some a) :: st) h = kk cal k_Li_readBy 76 ls st (cal M_Li_init [aQ (some a), aI z0, aI z1, aQ r2] h) := e_callI cal (as := [aQ r2, aI z1, aI z0]) rfl rfl (Nat.le_of_ble_eq_true hl)
theorem u_Li_readBy_76 : ex cal k_Li_readBy 76 (ls) ([aQ r]) h = some (some (aQ r), h) := e_ret3 cal rfl
theorem n_Li_readBy (d : Nat) : ev (d + 1) M_Li_readBy [aQ (some a), aI z0, aI z1] h = ex (ev d) k_Li_readBy 0 [aQ (some a), aI z0, aI z1, aU, aU, aU] [] h := rfl
theorem u_Li_marksToGo_0 : ex cal k_Li_marksToGo 0 (aQ r :: ls) (st) h = ex cal k_Li_marksToGo 1 (aQ r :: ls) (aQ r :: st) h := ex_st cal (s := s_ald 0 1) rfl rfl
theorem u_Li_marksToGo_1 : ex cal k_Li_marksToGo 1 (ls) (aQ (some a) :: st) h = gO h a 3 (ex cal k_Li_marksToGo 4 (ls) (gf h a 2 :: st) h) := e_gf cal rfl
theorem u_Li_marksToGo_4 : ex cal k_Li_marksToGo 4 (ls) (aQ (some a) :: st) h = gB (isAR h a) (ex cal k_Li_marksToGo 5 (ls) (aI (al h a) :: st) h) := e_len cal rfl
theorem u_Li_marksToGo_5 : ex cal k_Li_marksToGo 5 (ls) (st) h = ex cal k_Li_marksToGo 7 (ls) (aI 24 :: st) h := e_push cal rfl
theorem u_Li_marksToGo_7 : ex cal k_Li_marksToGo 7 (ls) (aI j :: aI i :: st) h = if wr i < wr j then ex cal k_Li_marksToGo 10 (ls) (st) h else ex cal k_Li_marksToGo 14 (ls) (st) h := e_icge cal rfl
theorem u_Li_marksToGo_10 : ex cal k_Li_marksToGo 10 (ls) (st) h = ex cal k_Li_marksToGo 11 (ls) (aI 0 :: st) h := e_push cal rfl
theorem u_Li_marksToGo_11 : ex cal k_Li_marksToGo 11 (ls) (st) h = ex cal k_Li_marksToGo 15 (ls) (st) h := ex_st cal (s := s_go 15) rfl rfl
theorem u_Li_marksToGo_14 : ex cal k_Li_marksToGo 14 (ls) (st) h = ex cal k_Li_marksToGo 15 (ls) (aI 1 :: st) h := e_push cal rfl
theorem u_Li_marksToGo_15 : ex cal k_Li_marksToGo 15 (ls) ([aI v]) h = some (some (aI v), h) := e_ret1 cal rfl
theorem n_Li_marksToGo (d : Nat) : ev (d + 1) M_Li_marksToGo [aQ (some a)] h = ex (ev d) k_Li_marksToGo 0 [aQ (some a)] [] h := rfl
theorem u_Pg_init_0 : ex cal k_Pg_init 0 (aQ r :: ls) (st) h = ex cal k_Pg_init 1 (aQ r :: ls) (aQ r :: st) h := ex_st cal (s := s_ald 0 1) rfl rfl
theorem u_Pg_init_1 (hl : Nat.ble st.length 4 = true) : ex cal k_Pg_init 1 (ls) (aQ (some a) :: st) h = ex cal k_Pg_init 4 (ls) (st) h := e_oi cal rfl (Nat.le_of_ble_eq_true hl)
theorem u_Pg_init_4 : ex cal k_Pg_init 4 (aQ r :: ls) (st) h = ex cal k_Pg_init 5 (aQ r :: ls) (aQ r :: st) h := ex_st cal (s := s_ald 0 5) rfl rfl
theorem u_Pg_init_5 : ex cal k_Pg_init 5 (x0 :: aQ r :: ls) (st) h = ex cal k_Pg_init 6 (x0 :: aQ r :: ls) (aQ r :: st) h := ex_st cal (s := s_ald 1 6) rfl rfl
theorem u_Pg_init_6 : ex cal k_Pg_init 6 (ls) (aQ r :: aQ (some a) :: st) h = gO h a 4 (ex cal k_Pg_init 9 (ls) (st) (pf h a 0 (aQ r))) := e_pf1 rfl rfl
theorem u_Pg_init_9 : ex cal k_Pg_init 9 (ls) ([]) h = some (none, h) := e_ret0 cal rfl
theorem n_Pg_init (d : Nat) : ev (d + 1) M_Pg_init [aQ (some a), aQ r0] h = ex (ev d) k_Pg_init 0 [aQ (some a), aQ r0] [] h := rfl
theorem u_Pg_size_0 : ex cal k_Pg_size 0 (aQ r :: ls) (st) h = ex cal k_Pg_size 1 (aQ r :: ls) (aQ r :: st) h := ex_st cal (s := s_ald 0 1) rfl rfl
theorem u_Pg_size_1 : ex cal k_Pg_size 1 (ls) (aQ (some a) :: st) h = gO h a 4 (ex cal k_Pg_size 4 (ls) (gf h a 0 :: st) h) := e_gf cal rfl
theorem u_Pg_size_4 : ex cal k_Pg_size 4 (ls) (aQ (some a) :: st) h = gB (isAR h a) (ex cal k_Pg_size 5 (ls) (aI (al h a) :: st) h) := e_len cal rfl
theorem u_Pg_size_5 : ex cal k_Pg_size 5 (ls) ([aI v]) h = some (some (aI v), h) := e_ret1 cal rfl
theorem n_Pg_size (d : Nat) : ev (d + 1) M_Pg_size [aQ (some a)] h = ex (ev d) k_Pg_size 0 [aQ (some a)] [] h := rfl
theorem u_Pg_rowAt_0 : ex cal k_Pg_rowAt 0 (x0 :: aI v :: ls) (st) h = ex cal k_Pg_rowAt 1 (x0 :: aI v :: ls) (aI v :: st) h := ex_st cal (s := s_ild 1 1) rfl rfl
theorem u_Pg_rowAt_1 : ex cal k_Pg_rowAt 1 (ls) (aI i :: st) h = if wr i < 0 then ex cal k_Pg_rowAt 22 (ls) (st) h else ex cal k_Pg_rowAt 4 (ls) (st) h := e_iflt cal rfl
theorem u_Pg_rowAt_4 : ex cal k_Pg_rowAt 4 (x0 :: aI v :: ls) (st) h = ex cal k_Pg_rowAt 5 (x0 :: aI v :: ls) (aI v :: st) h := ex_st cal (s := s_ild 1 5) rfl rfl
theorem u_Pg_rowAt_5 : ex cal k_Pg_rowAt 5 (aQ r :: ls) (st) h = ex cal k_Pg_rowAt 6 (aQ r :: ls) (aQ r :: st) h := ex_st cal (s := s_ald 0 6) rfl rfl
theorem u_Pg_rowAt_6 : ex cal k_Pg_rowAt 6 (ls) (aQ (some a) :: st) h = gO h a 4 (ex cal k_Pg_rowAt 9 (ls) (gf h a 0 :: st) h) := e_gf cal rfl
theorem u_Pg_rowAt_9 : ex cal k_Pg_rowAt 9 (ls) (aQ (some a) :: st) h = gB (isAR h a) (ex cal k_Pg_rowAt 10 (ls) (aI (al h a) :: st) h) := e_len cal rfl
theorem u_Pg_rowAt_10 : ex cal k_Pg_rowAt 10 (ls) (aI j :: aI i :: st) h = if wr i < wr j then ex cal k_Pg_rowAt 13 (ls) (st) h else ex cal k_Pg_rowAt 22 (ls) (st) h := e_icge cal rfl
theorem u_Pg_rowAt_13 : ex cal k_Pg_rowAt 13 (aQ r :: ls) (st) h = ex cal k_Pg_rowAt 14 (aQ r :: ls) (aQ r :: st) h := ex_st cal (s := s_ald 0 14) rfl rfl
theorem u_Pg_rowAt_14 : ex cal k_Pg_rowAt 14 (ls) (aQ (some a) :: st) h = gO h a 4 (ex cal k_Pg_rowAt 17 (ls) (gf h a 0 :: st) h) := e_gf cal rfl
theorem u_Pg_rowAt_17 : ex cal k_Pg_rowAt 17 (x0 :: aI v :: ls) (st) h = ex cal k_Pg_rowAt 18 (x0 :: aI v :: ls) (aI v :: st) h := ex_st cal (s := s_ild 1 18) rfl rfl
theorem u_Pg_rowAt_18 : ex cal k_Pg_rowAt 18 (ls) (aI i :: aQ (some a) :: st) h = gR h a 2 i (ex cal k_Pg_rowAt 19 (ls) (aQ (ra h a (wr i)) :: st) h) := e_ra cal rfl
theorem u_Pg_rowAt_19 : ex cal k_Pg_rowAt 19 (ls) (st) h = ex cal k_Pg_rowAt 23 (ls) (st) h := ex_st cal (s := s_go 23) rfl rfl
theorem u_Pg_rowAt_22 : ex cal k_Pg_rowAt 22 (ls) (st) h = ex cal k_Pg_rowAt 23 (ls) (aQ none :: st) h := e_push cal rfl
theorem u_Pg_rowAt_23 : ex cal k_Pg_rowAt 23 (ls) ([aQ r]) h = some (some (aQ r), h) := e_ret3 cal rfl
theorem n_Pg_rowAt (d : Nat) : ev (d + 1) M_Pg_rowAt [aQ (some a), aI z0] h = ex (ev d) k_Pg_rowAt 0 [aQ (some a), aI z0] [] h := rfl
theorem u_Pg_knownBy_0 : ex cal k_Pg_knownBy 0 (ls) (st) h = ex cal k_Pg_knownBy 1 (ls) (aI 0 :: st) h := e_push cal rfl
theorem u_Pg_knownBy_1 (hx : aNl x2 = true) : ex cal k_Pg_knownBy 1 (x0 :: x1 :: x2 :: y :: ls) (aI v :: st) h = ex cal k_Pg_knownBy 2 (x0 :: x1 :: x2 :: aI v :: ls) (st) h := e_ist (ls := x0 :: x1 :: x2 :: y :: ls) (k := 3) rfl hx (by simp only [List.length_cons]; omega)
theorem u_Pg_knownBy_2 : ex cal k_Pg_knownBy 2 (aQ r :: ls) (st) h = ex cal k_Pg_knownBy 3 (aQ r :: ls) (aQ r :: st) h := ex_st cal (s := s_ald 0 3) rfl rfl
theorem u_Pg_knownBy_3 : ex cal k_Pg_knownBy 3 (ls) (aQ (some a) :: st) h = gO h a 4 (ex cal k_Pg_knownBy 6 (ls) (gf h a 0 :: st) h) := e_gf cal rfl
theorem u_Pg_knownBy_6 (hx : aNl x3 = true) : ex cal k_Pg_knownBy 6 (x0 :: x1 :: x2 :: x3 :: y :: ls) (aQ r :: st) h = ex cal k_Pg_knownBy 8 (x0 :: x1 :: x2 :: x3 :: aQ r :: ls) (st) h := e_ast (ls := x0 :: x1 :: x2 :: x3 :: y :: ls) (k := 4) rfl hx (by simp only [List.length_cons]; omega)
theorem u_Pg_knownBy_8 : ex cal k_Pg_knownBy 8 (x0 :: x1 :: x2 :: x3 :: aQ r :: ls) (st) h = ex cal k_Pg_knownBy 10 (x0 :: x1 :: x2 :: x3 :: aQ r :: ls) (aQ r :: st) h := ex_st cal (s := s_ald 4 10) rfl rfl
theorem u_Pg_knownBy_10 : ex cal k_Pg_knownBy 10 (ls) (aQ (some a) :: st) h = gB (isAR h a) (ex cal k_Pg_knownBy 11 (ls) (aI (al h a) :: st) h) := e_len cal rfl
theorem u_Pg_knownBy_11 (hx : aNl x4 = true) : ex cal k_Pg_knownBy 11 (x0 :: x1 :: x2 :: x3 :: x4 :: y :: ls) (aI v :: st) h = ex cal k_Pg_knownBy 13 (x0 :: x1 :: x2 :: x3 :: x4 :: aI v :: ls) (st) h := e_ist (ls := x0 :: x1 :: x2 :: x3 :: x4 :: y :: ls) (k := 5) rfl hx (by simp only [List.length_cons]; omega)
theorem u_Pg_knownBy_13 : ex cal k_Pg_knownBy 13 (ls) (st) h = ex cal k_Pg_knownBy 14 (ls) (aI 0 :: st) h := e_push cal rfl
theorem u_Pg_knownBy_14 (hx : aNl x5 = true) : ex cal k_Pg_knownBy 14 (x0 :: x1 :: x2 :: x3 :: x4 :: x5 :: y :: ls) (aI v :: st) h = ex cal k_Pg_knownBy 16 (x0 :: x1 :: x2 :: x3 :: x4 :: x5 :: aI v :: ls) (st) h := e_ist (ls := x0 :: x1 :: x2 :: x3 :: x4 :: x5 :: y :: ls) (k := 6) rfl hx (by simp only [List.length_cons]; omega)
theorem u_Pg_knownBy_16 : ex cal k_Pg_knownBy 16 (x0 :: x1 :: x2 :: x3 :: x4 :: x5 :: aI v :: ls) (st) h = ex cal k_Pg_knownBy 18 (x0 :: x1 :: x2 :: x3 :: x4 :: x5 :: aI v :: ls) (aI v :: st) h := ex_st cal (s := s_ild 6 18) rfl rfl
theorem u_Pg_knownBy_18 : ex cal k_Pg_knownBy 18 (x0 :: x1 :: x2 :: x3 :: x4 :: aI v :: ls) (st) h = ex cal k_Pg_knownBy 20 (x0 :: x1 :: x2 :: x3 :: x4 :: aI v :: ls) (aI v :: st) h := ex_st cal (s := s_ild 5 20) rfl rfl
theorem u_Pg_knownBy_20 : ex cal k_Pg_knownBy 20 (ls) (aI j :: aI i :: st) h = if wr i < wr j then ex cal k_Pg_knownBy 23 (ls) (st) h else ex cal k_Pg_knownBy 51 (ls) (st) h := e_icge cal rfl
theorem u_Pg_knownBy_23 : ex cal k_Pg_knownBy 23 (x0 :: x1 :: x2 :: x3 :: aQ r :: ls) (st) h = ex cal k_Pg_knownBy 25 (x0 :: x1 :: x2 :: x3 :: aQ r :: ls) (aQ r :: st) h := ex_st cal (s := s_ald 4 25) rfl rfl
theorem u_Pg_knownBy_25 : ex cal k_Pg_knownBy 25 (x0 :: x1 :: x2 :: x3 :: x4 :: x5 :: aI v :: ls) (st) h = ex cal k_Pg_knownBy 27 (x0 :: x1 :: x2 :: x3 :: x4 :: x5 :: aI v :: ls) (aI v :: st) h := ex_st cal (s := s_ild 6 27) rfl rfl
theorem u_Pg_knownBy_27 : ex cal k_Pg_knownBy 27 (ls) (aI i :: aQ (some a) :: st) h = gR h a 2 i (ex cal k_Pg_knownBy 28 (ls) (aQ (ra h a (wr i)) :: st) h) := e_ra cal rfl
theorem u_Pg_knownBy_28 (hx : aNl x6 = true) : ex cal k_Pg_knownBy 28 (x0 :: x1 :: x2 :: x3 :: x4 :: x5 :: x6 :: y :: ls) (aQ r :: st) h = ex cal k_Pg_knownBy 30 (x0 :: x1 :: x2 :: x3 :: x4 :: x5 :: x6 :: aQ r :: ls) (st) h := e_ast (ls := x0 :: x1 :: x2 :: x3 :: x4 :: x5 :: x6 :: y :: ls) (k := 7) rfl hx (by simp only [List.length_cons]; omega)
theorem u_Pg_knownBy_30 : ex cal k_Pg_knownBy 30 (x0 :: x1 :: x2 :: x3 :: x4 :: x5 :: x6 :: aQ r :: ls) (st) h = ex cal k_Pg_knownBy 32 (x0 :: x1 :: x2 :: x3 :: x4 :: x5 :: x6 :: aQ r :: ls) (aQ r :: st) h := ex_st cal (s := s_ald 7 32) rfl rfl
theorem u_Pg_knownBy_32 : ex cal k_Pg_knownBy 32 (x0 :: aI v :: ls) (st) h = ex cal k_Pg_knownBy 33 (x0 :: aI v :: ls) (aI v :: st) h := ex_st cal (s := s_ild 1 33) rfl rfl
theorem u_Pg_knownBy_33 : ex cal k_Pg_knownBy 33 (x0 :: x1 :: aI v :: ls) (st) h = ex cal k_Pg_knownBy 34 (x0 :: x1 :: aI v :: ls) (aI v :: st) h := ex_st cal (s := s_ild 2 34) rfl rfl
theorem u_Pg_knownBy_34 : ex cal k_Pg_knownBy 34 (ls) (st) h = ex cal k_Pg_knownBy 35 (ls) (aI 0 :: st) h := e_push cal rfl
theorem u_Pg_knownBy_35 (hl : Nat.ble st.length 4 = true) : ex cal k_Pg_knownBy 35 (ls) (aI z2 :: aI z1 :: aI z0 :: aQ (some a) :: st) h = gO h a 3 (kk cal k_Pg_knownBy 38 ls st (cal M_Li_pointsOf [aQ (some a), aI z0, aI z1, aI z2] h)) := e_callV cal (ci := 3) (as := [aI z2, aI z1, aI z0]) rfl (by decide) rfl (Nat.le_of_ble_eq_true hl)
theorem u_Pg_knownBy_38 : ex cal k_Pg_knownBy 38 (ls) (st) h = ex cal k_Pg_knownBy 39 (ls) (aI 5 :: st) h := e_push cal rfl
theorem u_Pg_knownBy_39 : ex cal k_Pg_knownBy 39 (ls) (aI j :: aI i :: st) h = if wr i < wr j then ex cal k_Pg_knownBy 45 (ls) (st) h else ex cal k_Pg_knownBy 42 (ls) (st) h := e_iclt cal rfl
theorem u_Pg_knownBy_42 (hx : aNl x2 = true) : ex cal k_Pg_knownBy 42 (x0 :: x1 :: x2 :: aI v :: ls) (st) h = ex cal k_Pg_knownBy 45 (x0 :: x1 :: x2 :: aI (v + 1) :: ls) (st) h := e_inc (ls := x0 :: x1 :: x2 :: aI v :: ls) (k := 3) rfl rfl hx
theorem u_Pg_knownBy_45 (hx : aNl x5 = true) : ex cal k_Pg_knownBy 45 (x0 :: x1 :: x2 :: x3 :: x4 :: x5 :: aI v :: ls) (st) h = ex cal k_Pg_knownBy 48 (x0 :: x1 :: x2 :: x3 :: x4 :: x5 :: aI (v + 1) :: ls) (st) h := e_inc (ls := x0 :: x1 :: x2 :: x3 :: x4 :: x5 :: aI v :: ls) (k := 6) rfl rfl hx
theorem u_Pg_knownBy_48 : ex cal k_Pg_knownBy 48 (ls) (st) h = ex cal k_Pg_knownBy 16 (ls) (st) h := ex_st cal (s := s_go 16) rfl rfl
theorem u_Pg_knownBy_51 : ex cal k_Pg_knownBy 51 (x0 :: x1 :: x2 :: aI v :: ls) (st) h = ex cal k_Pg_knownBy 52 (x0 :: x1 :: x2 :: aI v :: ls) (aI v :: st) h := ex_st cal (s := s_ild 3 52) rfl rfl
theorem u_Pg_knownBy_52 : ex cal k_Pg_knownBy 52 (ls) ([aI v]) h = some (some (aI v), h) := e_ret1 cal rfl
theorem n_Pg_knownBy (d : Nat) : ev (d + 1) M_Pg_knownBy [aQ (some a), aI z0, aI z1] h = ex (ev d) k_Pg_knownBy 0 [aQ (some a), aI z0, aI z1, aU, aU, aU, aU, aU] [] h := rfl
theorem u_Pg_knownIfRead_0 : ex cal k_Pg_knownIfRead 0 (ls) (st) h = ex cal k_Pg_knownIfRead 1 (ls) (aI 0 :: st) h := e_push cal rfl
theorem u_Pg_knownIfRead_1 (hx : aNl x2 = true) : ex cal k_Pg_knownIfRead 1 (x0 :: x1 :: x2 :: y :: ls) (aI v :: st) h = ex cal k_Pg_knownIfRead 2 (x0 :: x1 :: x2 :: aI v :: ls) (st) h := e_ist (ls := x0 :: x1 :: x2 :: y :: ls) (k := 3) rfl hx (by simp only [List.length_cons]; omega)
theorem u_Pg_knownIfRead_2 : ex cal k_Pg_knownIfRead 2 (aQ r :: ls) (st) h = ex cal k_Pg_knownIfRead 3 (aQ r :: ls) (aQ r :: st) h := ex_st cal (s := s_ald 0 3) rfl rfl
theorem u_Pg_knownIfRead_3 : ex cal k_Pg_knownIfRead 3 (ls) (aQ (some a) :: st) h = gO h a 4 (ex cal k_Pg_knownIfRead 6 (ls) (gf h a 0 :: st) h) := e_gf cal rfl
theorem u_Pg_knownIfRead_6 (hx : aNl x3 = true) : ex cal k_Pg_knownIfRead 6 (x0 :: x1 :: x2 :: x3 :: y :: ls) (aQ r :: st) h = ex cal k_Pg_knownIfRead 8 (x0 :: x1 :: x2 :: x3 :: aQ r :: ls) (st) h := e_ast (ls := x0 :: x1 :: x2 :: x3 :: y :: ls) (k := 4) rfl hx (by simp only [List.length_cons]; omega)
theorem u_Pg_knownIfRead_8 : ex cal k_Pg_knownIfRead 8 (x0 :: x1 :: x2 :: x3 :: aQ r :: ls) (st) h = ex cal k_Pg_knownIfRead 10 (x0 :: x1 :: x2 :: x3 :: aQ r :: ls) (aQ r :: st) h := ex_st cal (s := s_ald 4 10) rfl rfl
theorem u_Pg_knownIfRead_10 : ex cal k_Pg_knownIfRead 10 (ls) (aQ (some a) :: st) h = gB (isAR h a) (ex cal k_Pg_knownIfRead 11 (ls) (aI (al h a) :: st) h) := e_len cal rfl
theorem u_Pg_knownIfRead_11 (hx : aNl x4 = true) : ex cal k_Pg_knownIfRead 11 (x0 :: x1 :: x2 :: x3 :: x4 :: y :: ls) (aI v :: st) h = ex cal k_Pg_knownIfRead 13 (x0 :: x1 :: x2 :: x3 :: x4 :: aI v :: ls) (st) h := e_ist (ls := x0 :: x1 :: x2 :: x3 :: x4 :: y :: ls) (k := 5) rfl hx (by simp only [List.length_cons]; omega)
theorem u_Pg_knownIfRead_13 : ex cal k_Pg_knownIfRead 13 (ls) (st) h = ex cal k_Pg_knownIfRead 14 (ls) (aI 0 :: st) h := e_push cal rfl
theorem u_Pg_knownIfRead_14 (hx : aNl x5 = true) : ex cal k_Pg_knownIfRead 14 (x0 :: x1 :: x2 :: x3 :: x4 :: x5 :: y :: ls) (aI v :: st) h = ex cal k_Pg_knownIfRead 16 (x0 :: x1 :: x2 :: x3 :: x4 :: x5 :: aI v :: ls) (st) h := e_ist (ls := x0 :: x1 :: x2 :: x3 :: x4 :: x5 :: y :: ls) (k := 6) rfl hx (by simp only [List.length_cons]; omega)
theorem u_Pg_knownIfRead_16 : ex cal k_Pg_knownIfRead 16 (x0 :: x1 :: x2 :: x3 :: x4 :: x5 :: aI v :: ls) (st) h = ex cal k_Pg_knownIfRead 18 (x0 :: x1 :: x2 :: x3 :: x4 :: x5 :: aI v :: ls) (aI v :: st) h := ex_st cal (s := s_ild 6 18) rfl rfl
theorem u_Pg_knownIfRead_18 : ex cal k_Pg_knownIfRead 18 (x0 :: x1 :: x2 :: x3 :: x4 :: aI v :: ls) (st) h = ex cal k_Pg_knownIfRead 20 (x0 :: x1 :: x2 :: x3 :: x4 :: aI v :: ls) (aI v :: st) h := ex_st cal (s := s_ild 5 20) rfl rfl
theorem u_Pg_knownIfRead_20 : ex cal k_Pg_knownIfRead 20 (ls) (aI j :: aI i :: st) h = if wr i < wr j then ex cal k_Pg_knownIfRead 23 (ls) (st) h else ex cal k_Pg_knownIfRead 50 (ls) (st) h := e_icge cal rfl
theorem u_Pg_knownIfRead_23 : ex cal k_Pg_knownIfRead 23 (x0 :: x1 :: x2 :: x3 :: aQ r :: ls) (st) h = ex cal k_Pg_knownIfRead 25 (x0 :: x1 :: x2 :: x3 :: aQ r :: ls) (aQ r :: st) h := ex_st cal (s := s_ald 4 25) rfl rfl
theorem u_Pg_knownIfRead_25 : ex cal k_Pg_knownIfRead 25 (x0 :: x1 :: x2 :: x3 :: x4 :: x5 :: aI v :: ls) (st) h = ex cal k_Pg_knownIfRead 27 (x0 :: x1 :: x2 :: x3 :: x4 :: x5 :: aI v :: ls) (aI v :: st) h := ex_st cal (s := s_ild 6 27) rfl rfl
theorem u_Pg_knownIfRead_27 : ex cal k_Pg_knownIfRead 27 (ls) (aI i :: aQ (some a) :: st) h = gR h a 2 i (ex cal k_Pg_knownIfRead 28 (ls) (aQ (ra h a (wr i)) :: st) h) := e_ra cal rfl
theorem u_Pg_knownIfRead_28 (hx : aNl x6 = true) : ex cal k_Pg_knownIfRead 28 (x0 :: x1 :: x2 :: x3 :: x4 :: x5 :: x6 :: y :: ls) (aQ r :: st) h = ex cal k_Pg_knownIfRead 30 (x0 :: x1 :: x2 :: x3 :: x4 :: x5 :: x6 :: aQ r :: ls) (st) h := e_ast (ls := x0 :: x1 :: x2 :: x3 :: x4 :: x5 :: x6 :: y :: ls) (k := 7) rfl hx (by simp only [List.length_cons]; omega)
theorem u_Pg_knownIfRead_30 : ex cal k_Pg_knownIfRead 30 (x0 :: x1 :: x2 :: x3 :: x4 :: x5 :: x6 :: aQ r :: ls) (st) h = ex cal k_Pg_knownIfRead 32 (x0 :: x1 :: x2 :: x3 :: x4 :: x5 :: x6 :: aQ r :: ls) (aQ r :: st) h := ex_st cal (s := s_ald 7 32) rfl rfl
theorem u_Pg_knownIfRead_32 : ex cal k_Pg_knownIfRead 32 (x0 :: aI v :: ls) (st) h = ex cal k_Pg_knownIfRead 33 (x0 :: aI v :: ls) (aI v :: st) h := ex_st cal (s := s_ild 1 33) rfl rfl
theorem u_Pg_knownIfRead_33 : ex cal k_Pg_knownIfRead 33 (x0 :: x1 :: aI v :: ls) (st) h = ex cal k_Pg_knownIfRead 34 (x0 :: x1 :: aI v :: ls) (aI v :: st) h := ex_st cal (s := s_ild 2 34) rfl rfl
theorem u_Pg_knownIfRead_34 (hl : Nat.ble st.length 4 = true) : ex cal k_Pg_knownIfRead 34 (ls) (aI z1 :: aI z0 :: aQ (some a) :: st) h = gO h a 3 (kk cal k_Pg_knownIfRead 37 ls st (cal M_Li_pointsIfRead [aQ (some a), aI z0, aI z1] h)) := e_callV cal (ci := 3) (as := [aI z1, aI z0]) rfl (by decide) rfl (Nat.le_of_ble_eq_true hl)
theorem u_Pg_knownIfRead_37 : ex cal k_Pg_knownIfRead 37 (ls) (st) h = ex cal k_Pg_knownIfRead 38 (ls) (aI 5 :: st) h := e_push cal rfl
theorem u_Pg_knownIfRead_38 : ex cal k_Pg_knownIfRead 38 (ls) (aI j :: aI i :: st) h = if wr i < wr j then ex cal k_Pg_knownIfRead 44 (ls) (st) h else ex cal k_Pg_knownIfRead 41 (ls) (st) h := e_iclt cal rfl
theorem u_Pg_knownIfRead_41 (hx : aNl x2 = true) : ex cal k_Pg_knownIfRead 41 (x0 :: x1 :: x2 :: aI v :: ls) (st) h = ex cal k_Pg_knownIfRead 44 (x0 :: x1 :: x2 :: aI (v + 1) :: ls) (st) h := e_inc (ls := x0 :: x1 :: x2 :: aI v :: ls) (k := 3) rfl rfl hx
theorem u_Pg_knownIfRead_44 (hx : aNl x5 = true) : ex cal k_Pg_knownIfRead 44 (x0 :: x1 :: x2 :: x3 :: x4 :: x5 :: aI v :: ls) (st) h = ex cal k_Pg_knownIfRead 47 (x0 :: x1 :: x2 :: x3 :: x4 :: x5 :: aI (v + 1) :: ls) (st) h := e_inc (ls := x0 :: x1 :: x2 :: x3 :: x4 :: x5 :: aI v :: ls) (k := 6) rfl rfl hx
theorem u_Pg_knownIfRead_47 : ex cal k_Pg_knownIfRead 47 (ls) (st) h = ex cal k_Pg_knownIfRead 16 (ls) (st) h := ex_st cal (s := s_go 16) rfl rfl
theorem u_Pg_knownIfRead_50 : ex cal k_Pg_knownIfRead 50 (x0 :: x1 :: x2 :: aI v :: ls) (st) h = ex cal k_Pg_knownIfRead 51 (x0 :: x1 :: x2 :: aI v :: ls) (aI v :: st) h := ex_st cal (s := s_ild 3 51) rfl rfl
theorem u_Pg_knownIfRead_51 : ex cal k_Pg_knownIfRead 51 (ls) ([aI v]) h = some (some (aI v), h) := e_ret1 cal rfl
theorem n_Pg_knownIfRead (d : Nat) : ev (d + 1) M_Pg_knownIfRead [aQ (some a), aI z0, aI z1] h = ex (ev d) k_Pg_knownIfRead 0 [aQ (some a), aI z0, aI z1, aU, aU, aU, aU, aU] [] h := rfl
theorem u_Pg_madeBy_0 : ex cal k_Pg_madeBy 0 (ls) (st) h = ex cal k_Pg_madeBy 1 (ls) (aI 0 :: st) h := e_push cal rfl
theorem u_Pg_madeBy_1 (hx : aNl x1 = true) : ex cal k_Pg_madeBy 1 (x0 :: x1 :: y :: ls) (aI v :: st) h = ex cal k_Pg_madeBy 2 (x0 :: x1 :: aI v :: ls) (st) h := e_ist (ls := x0 :: x1 :: y :: ls) (k := 2) rfl hx (by simp only [List.length_cons]; omega)
theorem u_Pg_madeBy_2 : ex cal k_Pg_madeBy 2 (aQ r :: ls) (st) h = ex cal k_Pg_madeBy 3 (aQ r :: ls) (aQ r :: st) h := ex_st cal (s := s_ald 0 3) rfl rfl
theorem u_Pg_madeBy_3 : ex cal k_Pg_madeBy 3 (ls) (aQ (some a) :: st) h = gO h a 4 (ex cal k_Pg_madeBy 6 (ls) (gf h a 0 :: st) h) := e_gf cal rfl
theorem u_Pg_madeBy_6 (hx : aNl x2 = true) : ex cal k_Pg_madeBy 6 (x0 :: x1 :: x2 :: y :: ls) (aQ r :: st) h = ex cal k_Pg_madeBy 7 (x0 :: x1 :: x2 :: aQ r :: ls) (st) h := e_ast (ls := x0 :: x1 :: x2 :: y :: ls) (k := 3) rfl hx (by simp only [List.length_cons]; omega)
theorem u_Pg_madeBy_7 : ex cal k_Pg_madeBy 7 (x0 :: x1 :: x2 :: aQ r :: ls) (st) h = ex cal k_Pg_madeBy 8 (x0 :: x1 :: x2 :: aQ r :: ls) (aQ r :: st) h := ex_st cal (s := s_ald 3 8) rfl rfl
theorem u_Pg_madeBy_8 : ex cal k_Pg_madeBy 8 (ls) (aQ (some a) :: st) h = gB (isAR h a) (ex cal k_Pg_madeBy 9 (ls) (aI (al h a) :: st) h) := e_len cal rfl
theorem u_Pg_madeBy_9 (hx : aNl x3 = true) : ex cal k_Pg_madeBy 9 (x0 :: x1 :: x2 :: x3 :: y :: ls) (aI v :: st) h = ex cal k_Pg_madeBy 11 (x0 :: x1 :: x2 :: x3 :: aI v :: ls) (st) h := e_ist (ls := x0 :: x1 :: x2 :: x3 :: y :: ls) (k := 4) rfl hx (by simp only [List.length_cons]; omega)
theorem u_Pg_madeBy_11 : ex cal k_Pg_madeBy 11 (ls) (st) h = ex cal k_Pg_madeBy 12 (ls) (aI 0 :: st) h := e_push cal rfl
theorem u_Pg_madeBy_12 (hx : aNl x4 = true) : ex cal k_Pg_madeBy 12 (x0 :: x1 :: x2 :: x3 :: x4 :: y :: ls) (aI v :: st) h = ex cal k_Pg_madeBy 14 (x0 :: x1 :: x2 :: x3 :: x4 :: aI v :: ls) (st) h := e_ist (ls := x0 :: x1 :: x2 :: x3 :: x4 :: y :: ls) (k := 5) rfl hx (by simp only [List.length_cons]; omega)
theorem u_Pg_madeBy_14 : ex cal k_Pg_madeBy 14 (x0 :: x1 :: x2 :: x3 :: x4 :: aI v :: ls) (st) h = ex cal k_Pg_madeBy 16 (x0 :: x1 :: x2 :: x3 :: x4 :: aI v :: ls) (aI v :: st) h := ex_st cal (s := s_ild 5 16) rfl rfl
theorem u_Pg_madeBy_16 : ex cal k_Pg_madeBy 16 (x0 :: x1 :: x2 :: x3 :: aI v :: ls) (st) h = ex cal k_Pg_madeBy 18 (x0 :: x1 :: x2 :: x3 :: aI v :: ls) (aI v :: st) h := ex_st cal (s := s_ild 4 18) rfl rfl
theorem u_Pg_madeBy_18 : ex cal k_Pg_madeBy 18 (ls) (aI j :: aI i :: st) h = if wr i < wr j then ex cal k_Pg_madeBy 21 (ls) (st) h else ex cal k_Pg_madeBy 45 (ls) (st) h := e_icge cal rfl
theorem u_Pg_madeBy_21 : ex cal k_Pg_madeBy 21 (x0 :: x1 :: x2 :: aQ r :: ls) (st) h = ex cal k_Pg_madeBy 22 (x0 :: x1 :: x2 :: aQ r :: ls) (aQ r :: st) h := ex_st cal (s := s_ald 3 22) rfl rfl
theorem u_Pg_madeBy_22 : ex cal k_Pg_madeBy 22 (x0 :: x1 :: x2 :: x3 :: x4 :: aI v :: ls) (st) h = ex cal k_Pg_madeBy 24 (x0 :: x1 :: x2 :: x3 :: x4 :: aI v :: ls) (aI v :: st) h := ex_st cal (s := s_ild 5 24) rfl rfl
theorem u_Pg_madeBy_24 : ex cal k_Pg_madeBy 24 (ls) (aI i :: aQ (some a) :: st) h = gR h a 2 i (ex cal k_Pg_madeBy 25 (ls) (aQ (ra h a (wr i)) :: st) h) := e_ra cal rfl
theorem u_Pg_madeBy_25 (hx : aNl x5 = true) : ex cal k_Pg_madeBy 25 (x0 :: x1 :: x2 :: x3 :: x4 :: x5 :: y :: ls) (aQ r :: st) h = ex cal k_Pg_madeBy 27 (x0 :: x1 :: x2 :: x3 :: x4 :: x5 :: aQ r :: ls) (st) h := e_ast (ls := x0 :: x1 :: x2 :: x3 :: x4 :: x5 :: y :: ls) (k := 6) rfl hx (by simp only [List.length_cons]; omega)
theorem u_Pg_madeBy_27 : ex cal k_Pg_madeBy 27 (x0 :: x1 :: x2 :: x3 :: x4 :: x5 :: aQ r :: ls) (st) h = ex cal k_Pg_madeBy 29 (x0 :: x1 :: x2 :: x3 :: x4 :: x5 :: aQ r :: ls) (aQ r :: st) h := ex_st cal (s := s_ald 6 29) rfl rfl
theorem u_Pg_madeBy_29 : ex cal k_Pg_madeBy 29 (ls) (aQ (some a) :: st) h = gO h a 3 (ex cal k_Pg_madeBy 32 (ls) (gf h a 1 :: st) h) := e_gf cal rfl
theorem u_Pg_madeBy_32 : ex cal k_Pg_madeBy 32 (x0 :: aI v :: ls) (st) h = ex cal k_Pg_madeBy 33 (x0 :: aI v :: ls) (aI v :: st) h := ex_st cal (s := s_ild 1 33) rfl rfl
theorem u_Pg_madeBy_33 : ex cal k_Pg_madeBy 33 (ls) (aI j :: aI i :: st) h = if wr i = wr j then ex cal k_Pg_madeBy 36 (ls) (st) h else ex cal k_Pg_madeBy 39 (ls) (st) h := e_icne cal rfl
theorem u_Pg_madeBy_36 (hx : aNl x1 = true) : ex cal k_Pg_madeBy 36 (x0 :: x1 :: aI v :: ls) (st) h = ex cal k_Pg_madeBy 39 (x0 :: x1 :: aI (v + 1) :: ls) (st) h := e_inc (ls := x0 :: x1 :: aI v :: ls) (k := 2) rfl rfl hx
theorem u_Pg_madeBy_39 (hx : aNl x4 = true) : ex cal k_Pg_madeBy 39 (x0 :: x1 :: x2 :: x3 :: x4 :: aI v :: ls) (st) h = ex cal k_Pg_madeBy 42 (x0 :: x1 :: x2 :: x3 :: x4 :: aI (v + 1) :: ls) (st) h := e_inc (ls := x0 :: x1 :: x2 :: x3 :: x4 :: aI v :: ls) (k := 5) rfl rfl hx
theorem u_Pg_madeBy_42 : ex cal k_Pg_madeBy 42 (ls) (st) h = ex cal k_Pg_madeBy 14 (ls) (st) h := ex_st cal (s := s_go 14) rfl rfl
theorem u_Pg_madeBy_45 : ex cal k_Pg_madeBy 45 (x0 :: x1 :: aI v :: ls) (st) h = ex cal k_Pg_madeBy 46 (x0 :: x1 :: aI v :: ls) (aI v :: st) h := ex_st cal (s := s_ild 2 46) rfl rfl
theorem u_Pg_madeBy_46 : ex cal k_Pg_madeBy 46 (ls) ([aI v]) h = some (some (aI v), h) := e_ret1 cal rfl
theorem n_Pg_madeBy (d : Nat) : ev (d + 1) M_Pg_madeBy [aQ (some a), aI z0] h = ex (ev d) k_Pg_madeBy 0 [aQ (some a), aI z0, aU, aU, aU, aU, aU] [] h := rfl
theorem u_Pg_readBy_0 : ex cal k_Pg_readBy 0 (aQ r :: ls) (st) h = ex cal k_Pg_readBy 1 (aQ r :: ls) (aQ r :: st) h := ex_st cal (s := s_ald 0 1) rfl rfl
theorem u_Pg_readBy_1 : ex cal k_Pg_readBy 1 (ls) (aQ (some a) :: st) h = gO h a 4 (ex cal k_Pg_readBy 4 (ls) (gf h a 0 :: st) h) := e_gf cal rfl
theorem u_Pg_readBy_4 : ex cal k_Pg_readBy 4 (ls) (aQ (some a) :: st) h = gB (isAR h a) (ex cal k_Pg_readBy 5 (ls) (aI (al h a) :: st) h) := e_len cal rfl
theorem u_Pg_readBy_5 (h1 : 0 ≤ i) (h2 : i ≤ 100000) : ex cal k_Pg_readBy 5 (ls) (aI i :: st) h = ex cal k_Pg_readBy 8 (ls) (aQ (some (aSz h)) :: st) (aNew h (.inr (.inr (2, i.toNat, fun _ => none))) i.toNat) := e_nar cal rfl h1 h2
theorem u_Pg_readBy_8 (hx : aNl x4 = true) : ex cal k_Pg_readBy 8 (x0 :: x1 :: x2 :: x3 :: x4 :: y :: ls) (aQ r :: st) h = ex cal k_Pg_readBy 10 (x0 :: x1 :: x2 :: x3 :: x4 :: aQ r :: ls) (st) h := e_ast (ls := x0 :: x1 :: x2 :: x3 :: x4 :: y :: ls) (k := 5) rfl hx (by simp only [List.length_cons]; omega)
theorem u_Pg_readBy_10 : ex cal k_Pg_readBy 10 (ls) (st) h = ex cal k_Pg_readBy 11 (ls) (aI 0 :: st) h := e_push cal rfl
theorem u_Pg_readBy_11 (hx : aNl x5 = true) : ex cal k_Pg_readBy 11 (x0 :: x1 :: x2 :: x3 :: x4 :: x5 :: y :: ls) (aI v :: st) h = ex cal k_Pg_readBy 13 (x0 :: x1 :: x2 :: x3 :: x4 :: x5 :: aI v :: ls) (st) h := e_ist (ls := x0 :: x1 :: x2 :: x3 :: x4 :: x5 :: y :: ls) (k := 6) rfl hx (by simp only [List.length_cons]; omega)
theorem u_Pg_readBy_13 : ex cal k_Pg_readBy 13 (x0 :: x1 :: x2 :: x3 :: x4 :: x5 :: aI v :: ls) (st) h = ex cal k_Pg_readBy 15 (x0 :: x1 :: x2 :: x3 :: x4 :: x5 :: aI v :: ls) (aI v :: st) h := ex_st cal (s := s_ild 6 15) rfl rfl
theorem u_Pg_readBy_15 : ex cal k_Pg_readBy 15 (aQ r :: ls) (st) h = ex cal k_Pg_readBy 16 (aQ r :: ls) (aQ r :: st) h := ex_st cal (s := s_ald 0 16) rfl rfl
theorem u_Pg_readBy_16 : ex cal k_Pg_readBy 16 (ls) (aQ (some a) :: st) h = gO h a 4 (ex cal k_Pg_readBy 19 (ls) (gf h a 0 :: st) h) := e_gf cal rfl
theorem u_Pg_readBy_19 : ex cal k_Pg_readBy 19 (ls) (aQ (some a) :: st) h = gB (isAR h a) (ex cal k_Pg_readBy 20 (ls) (aI (al h a) :: st) h) := e_len cal rfl
theorem u_Pg_readBy_20 : ex cal k_Pg_readBy 20 (ls) (aI j :: aI i :: st) h = if wr i < wr j then ex cal k_Pg_readBy 23 (ls) (st) h else ex cal k_Pg_readBy 69 (ls) (st) h := e_icge cal rfl
theorem u_Pg_readBy_23 : ex cal k_Pg_readBy 23 (x0 :: x1 :: x2 :: x3 :: x4 :: aQ r :: ls) (st) h = ex cal k_Pg_readBy 25 (x0 :: x1 :: x2 :: x3 :: x4 :: aQ r :: ls) (aQ r :: st) h := ex_st cal (s := s_ald 5 25) rfl rfl
theorem u_Pg_readBy_25 : ex cal k_Pg_readBy 25 (x0 :: x1 :: x2 :: x3 :: x4 :: x5 :: aI v :: ls) (st) h = ex cal k_Pg_readBy 27 (x0 :: x1 :: x2 :: x3 :: x4 :: x5 :: aI v :: ls) (aI v :: st) h := ex_st cal (s := s_ild 6 27) rfl rfl
theorem u_Pg_readBy_27 : ex cal k_Pg_readBy 27 (x0 :: x1 :: x2 :: x3 :: x4 :: x5 :: aI v :: ls) (st) h = ex cal k_Pg_readBy 29 (x0 :: x1 :: x2 :: x3 :: x4 :: x5 :: aI v :: ls) (aI v :: st) h := ex_st cal (s := s_ild 6 29) rfl rfl
theorem u_Pg_readBy_29 : ex cal k_Pg_readBy 29 (x0 :: x1 :: x2 :: aI v :: ls) (st) h = ex cal k_Pg_readBy 30 (x0 :: x1 :: x2 :: aI v :: ls) (aI v :: st) h := ex_st cal (s := s_ild 3 30) rfl rfl
theorem u_Pg_readBy_30 : ex cal k_Pg_readBy 30 (ls) (aI j :: aI i :: st) h = if wr i < wr j then ex cal k_Pg_readBy 55 (ls) (st) h else ex cal k_Pg_readBy 33 (ls) (st) h := e_iclt cal rfl
theorem u_Pg_readBy_33 : ex cal k_Pg_readBy 33 (x0 :: x1 :: x2 :: x3 :: x4 :: x5 :: aI v :: ls) (st) h = ex cal k_Pg_readBy 35 (x0 :: x1 :: x2 :: x3 :: x4 :: x5 :: aI v :: ls) (aI v :: st) h := ex_st cal (s := s_ild 6 35) rfl rfl
theorem u_Pg_readBy_35 : ex cal k_Pg_readBy 35 (x0 :: x1 :: x2 :: x3 :: aI v :: ls) (st) h = ex cal k_Pg_readBy 37 (x0 :: x1 :: x2 :: x3 :: aI v :: ls) (aI v :: st) h := ex_st cal (s := s_ild 4 37) rfl rfl
theorem u_Pg_readBy_37 : ex cal k_Pg_readBy 37 (ls) (aI j :: aI i :: st) h = if wr j < wr i then ex cal k_Pg_readBy 55 (ls) (st) h else ex cal k_Pg_readBy 40 (ls) (st) h := e_icgt cal rfl
theorem u_Pg_readBy_40 : ex cal k_Pg_readBy 40 (aQ r :: ls) (st) h = ex cal k_Pg_readBy 41 (aQ r :: ls) (aQ r :: st) h := ex_st cal (s := s_ald 0 41) rfl rfl
theorem u_Pg_readBy_41 : ex cal k_Pg_readBy 41 (ls) (aQ (some a) :: st) h = gO h a 4 (ex cal k_Pg_readBy 44 (ls) (gf h a 0 :: st) h) := e_gf cal rfl
theorem u_Pg_readBy_44 : ex cal k_Pg_readBy 44 (x0 :: x1 :: x2 :: x3 :: x4 :: x5 :: aI v :: ls) (st) h = ex cal k_Pg_readBy 46 (x0 :: x1 :: x2 :: x3 :: x4 :: x5 :: aI v :: ls) (aI v :: st) h := ex_st cal (s := s_ild 6 46) rfl rfl
theorem u_Pg_readBy_46 : ex cal k_Pg_readBy 46 (ls) (aI i :: aQ (some a) :: st) h = gR h a 2 i (ex cal k_Pg_readBy 47 (ls) (aQ (ra h a (wr i)) :: st) h) := e_ra cal rfl
theorem u_Pg_readBy_47 : ex cal k_Pg_readBy 47 (x0 :: aI v :: ls) (st) h = ex cal k_Pg_readBy 48 (x0 :: aI v :: ls) (aI v :: st) h := ex_st cal (s := s_ild 1 48) rfl rfl
theorem u_Pg_readBy_48 : ex cal k_Pg_readBy 48 (x0 :: x1 :: aI v :: ls) (st) h = ex cal k_Pg_readBy 49 (x0 :: x1 :: aI v :: ls) (aI v :: st) h := ex_st cal (s := s_ild 2 49) rfl rfl
theorem u_Pg_readBy_49 (hl : Nat.ble st.length 4 = true) : ex cal k_Pg_readBy 49 (ls) (aI z1 :: aI z0 :: aQ (some a) :: st) h = gO h a 3 (kk cal k_Pg_readBy 52 ls st (cal M_Li_readBy [aQ (some a), aI z0, aI z1] h)) := e_callV cal (ci := 3) (as := [aI z1, aI z0]) rfl (by decide) rfl (Nat.le_of_ble_eq_true hl)
theorem u_Pg_readBy_52 : ex cal k_Pg_readBy 52 (ls) (st) h = ex cal k_Pg_readBy 62 (ls) (st) h := ex_st cal (s := s_go 62) rfl rfl
theorem u_Pg_readBy_55 : ex cal k_Pg_readBy 55 (aQ r :: ls) (st) h = ex cal k_Pg_readBy 56 (aQ r :: ls) (aQ r :: st) h := ex_st cal (s := s_ald 0 56) rfl rfl
theorem u_Pg_readBy_56 : ex cal k_Pg_readBy 56 (ls) (aQ (some a) :: st) h = gO h a 4 (ex cal k_Pg_readBy 59 (ls) (gf h a 0 :: st) h) := e_gf cal rfl
theorem u_Pg_readBy_59 : ex cal k_Pg_readBy 59 (x0 :: x1 :: x2 :: x3 :: x4 :: x5 :: aI v :: ls) (st) h = ex cal k_Pg_readBy 61 (x0 :: x1 :: x2 :: x3 :: x4 :: x5 :: aI v :: ls) (aI v :: st) h := ex_st cal (s := s_ild 6 61) rfl rfl
theorem u_Pg_readBy_61 : ex cal k_Pg_readBy 61 (ls) (aI i :: aQ (some a) :: st) h = gR h a 2 i (ex cal k_Pg_readBy 62 (ls) (aQ (ra h a (wr i)) :: st) h) := e_ra cal rfl
theorem u_Pg_readBy_62 : ex cal k_Pg_readBy 62 (ls) (aQ r :: aI i :: aQ (some a) :: st) h = gR h a 2 i (gB (okQ h 2 r) (ex cal k_Pg_readBy 63 (ls) (st) (sr h a (upf (ra h a) (wr i) r)))) := e_ras cal rfl
theorem u_Pg_readBy_63 (hx : aNl x5 = true) : ex cal k_Pg_readBy 63 (x0 :: x1 :: x2 :: x3 :: x4 :: x5 :: aI v :: ls) (st) h = ex cal k_Pg_readBy 66 (x0 :: x1 :: x2 :: x3 :: x4 :: x5 :: aI (v + 1) :: ls) (st) h := e_inc (ls := x0 :: x1 :: x2 :: x3 :: x4 :: x5 :: aI v :: ls) (k := 6) rfl rfl hx
theorem u_Pg_readBy_66 : ex cal k_Pg_readBy 66 (ls) (st) h = ex cal k_Pg_readBy 13 (ls) (st) h := ex_st cal (s := s_go 13) rfl rfl
theorem u_Pg_readBy_69 : ex cal k_Pg_readBy 69 (ls) (st) h = ex cal k_Pg_readBy 72 (ls) (aQ (some (aSz h)) :: st) (aNew h (.inl (4, aDf 4)) (aNf 4)) := e_new cal rfl
theorem u_Pg_readBy_72 (hx : aNl y = true) : ex cal k_Pg_readBy 72 (ls) (y :: st) h = ex cal k_Pg_readBy 73 (ls) (y :: y :: st) h := e_dup rfl hx
theorem u_Pg_readBy_73 : ex cal k_Pg_readBy 73 (x0 :: x1 :: x2 :: x3 :: x4 :: aQ r :: ls) (st) h = ex cal k_Pg_readBy 75 (x0 :: x1 :: x2 :: x3 :: x4 :: aQ r :: ls) (aQ r :: st) h := ex_st cal (s := s_ald 5 75) rfl rfl
theorem u_Pg_readBy_75 (hl : Nat.ble st.length 4 = true) : ex cal k_Pg_readBy 75 (ls) (aQ r0 :: aQ (some a) :: st) h = kk cal k_Pg_readBy 78 ls st (cal M_Pg_init [aQ (some a), aQ r0] h) := e_callI cal (as := [aQ r0]) rfl rfl (Nat.le_of_ble_eq_true hl)
theorem u_Pg_readBy_78 : ex cal k_Pg_readBy 78 (ls) ([aQ r]) h = some (some (aQ r), h) := e_ret3 cal rfl
theorem n_Pg_readBy (d : Nat) : ev (d + 1) M_Pg_readBy [aQ (some a), aI z0, aI z1, aI z2, aI z3] h = ex (ev d) k_Pg_readBy 0 [aQ (some a), aI z0, aI z1, aI z2, aI z3, aU, aU] [] h := rfl
theorem u_Pl_init_0 : ex cal k_Pl_init 0 (aQ r :: ls) (st) h = ex cal k_Pl_init 1 (aQ r :: ls) (aQ r :: st) h := ex_st cal (s := s_ald 0 1) rfl rfl
theorem u_Pl_init_1 (hl : Nat.ble st.length 4 = true) : ex cal k_Pl_init 1 (ls) (aQ (some a) :: st) h = ex cal k_Pl_init 4 (ls) (st) h := e_oi cal rfl (Nat.le_of_ble_eq_true hl)
theorem u_Pl_init_4 : ex cal k_Pl_init 4 (aQ r :: ls) (st) h = ex cal k_Pl_init 5 (aQ r :: ls) (aQ r :: st) h := ex_st cal (s := s_ald 0 5) rfl rfl
theorem u_Pl_init_5 : ex cal k_Pl_init 5 (ls) (st) h = ex cal k_Pl_init 7 (ls) (aI 8 :: st) h := e_push cal rfl
theorem u_Pl_init_7 (h1 : 0 ≤ i) (h2 : i ≤ 100000) : ex cal k_Pl_init 7 (ls) (aI i :: st) h = ex cal k_Pl_init 9 (ls) (aQ (some (aSz h)) :: st) (aNew h (.inr (.inl (i.toNat, fun _ => 0))) i.toNat) := e_nai cal rfl h1 h2
theorem u_Pl_init_9 : ex cal k_Pl_init 9 (ls) (aQ r :: aQ (some a) :: st) h = gO h a 5 (ex cal k_Pl_init 12 (ls) (st) (pf h a 1 (aQ r))) := e_pf1 rfl rfl
theorem u_Pl_init_12 : ex cal k_Pl_init 12 (aQ r :: ls) (st) h = ex cal k_Pl_init 13 (aQ r :: ls) (aQ r :: st) h := ex_st cal (s := s_ald 0 13) rfl rfl
theorem u_Pl_init_13 : ex cal k_Pl_init 13 (ls) (st) h = ex cal k_Pl_init 15 (ls) (aI 6 :: st) h := e_push cal rfl
theorem u_Pl_init_15 (h1 : 0 ≤ i) (h2 : i ≤ 100000) : ex cal k_Pl_init 15 (ls) (aI i :: st) h = ex cal k_Pl_init 17 (ls) (aQ (some (aSz h)) :: st) (aNew h (.inr (.inl (i.toNat, fun _ => 0))) i.toNat) := e_nai cal rfl h1 h2
theorem u_Pl_init_17 : ex cal k_Pl_init 17 (ls) (aQ r :: aQ (some a) :: st) h = gO h a 5 (ex cal k_Pl_init 20 (ls) (st) (pf h a 2 (aQ r))) := e_pf1 rfl rfl
theorem u_Pl_init_20 : ex cal k_Pl_init 20 (aQ r :: ls) (st) h = ex cal k_Pl_init 21 (aQ r :: ls) (aQ r :: st) h := ex_st cal (s := s_ald 0 21) rfl rfl
theorem u_Pl_init_21 : ex cal k_Pl_init 21 (ls) (st) h = ex cal k_Pl_init 23 (ls) (aI 48 :: st) h := e_push cal rfl
theorem u_Pl_init_23 (h1 : 0 ≤ i) (h2 : i ≤ 100000) : ex cal k_Pl_init 23 (ls) (aI i :: st) h = ex cal k_Pl_init 25 (ls) (aQ (some (aSz h)) :: st) (aNew h (.inr (.inl (i.toNat, fun _ => 0))) i.toNat) := e_nai cal rfl h1 h2
theorem u_Pl_init_25 : ex cal k_Pl_init 25 (ls) (aQ r :: aQ (some a) :: st) h = gO h a 5 (ex cal k_Pl_init 28 (ls) (st) (pf h a 4 (aQ r))) := e_pf1 rfl rfl
theorem u_Pl_init_28 : ex cal k_Pl_init 28 (aQ r :: ls) (st) h = ex cal k_Pl_init 29 (aQ r :: ls) (aQ r :: st) h := ex_st cal (s := s_ald 0 29) rfl rfl
theorem u_Pl_init_29 : ex cal k_Pl_init 29 (ls) (st) h = ex cal k_Pl_init 32 (ls) (aI 2304 :: st) h := e_push cal rfl
theorem u_Pl_init_32 (h1 : 0 ≤ i) (h2 : i ≤ 100000) : ex cal k_Pl_init 32 (ls) (aI i :: st) h = ex cal k_Pl_init 34 (ls) (aQ (some (aSz h)) :: st) (aNew h (.inr (.inl (i.toNat, fun _ => 0))) i.toNat) := e_nai cal rfl h1 h2
theorem u_Pl_init_34 : ex cal k_Pl_init 34 (ls) (aQ r :: aQ (some a) :: st) h = gO h a 5 (ex cal k_Pl_init 37 (ls) (st) (pf h a 5 (aQ r))) := e_pf1 rfl rfl
theorem u_Pl_init_37 : ex cal k_Pl_init 37 (ls) ([]) h = some (none, h) := e_ret0 cal rfl
theorem n_Pl_init (d : Nat) : ev (d + 1) M_Pl_init [aQ (some a)] h = ex (ev d) k_Pl_init 0 [aQ (some a)] [] h := rfl
theorem u_Pl_workOut_0 : ex cal k_Pl_workOut 0 (aQ r :: ls) (st) h = ex cal k_Pl_workOut 1 (aQ r :: ls) (aQ r :: st) h := ex_st cal (s := s_ald 0 1) rfl rfl
theorem u_Pl_workOut_1 : ex cal k_Pl_workOut 1 (x0 :: aQ r :: ls) (st) h = ex cal k_Pl_workOut 2 (x0 :: aQ r :: ls) (aQ r :: st) h := ex_st cal (s := s_ald 1 2) rfl rfl
theorem u_Pl_workOut_2 (hl : Nat.ble st.length 4 = true) : ex cal k_Pl_workOut 2 (ls) (aQ r0 :: aQ (some a) :: st) h = gO h a 5 (kk cal k_Pl_workOut 5 ls st (cal M_Pl_priceTasks [aQ (some a), aQ r0] h)) := e_callV cal (ci := 5) (as := [aQ r0]) rfl (by decide) rfl (Nat.le_of_ble_eq_true hl)
theorem u_Pl_workOut_5 : ex cal k_Pl_workOut 5 (aQ r :: ls) (st) h = ex cal k_Pl_workOut 6 (aQ r :: ls) (aQ r :: st) h := ex_st cal (s := s_ald 0 6) rfl rfl
theorem u_Pl_workOut_6 : ex cal k_Pl_workOut 6 (x0 :: aQ r :: ls) (st) h = ex cal k_Pl_workOut 7 (x0 :: aQ r :: ls) (aQ r :: st) h := ex_st cal (s := s_ald 1 7) rfl rfl
theorem u_Pl_workOut_7 : ex cal k_Pl_workOut 7 (x0 :: x1 :: aQ r :: ls) (st) h = ex cal k_Pl_workOut 8 (x0 :: x1 :: aQ r :: ls) (aQ r :: st) h := ex_st cal (s := s_ald 2 8) rfl rfl
theorem u_Pl_workOut_8 : ex cal k_Pl_workOut 8 (x0 :: x1 :: x2 :: aI v :: ls) (st) h = ex cal k_Pl_workOut 9 (x0 :: x1 :: x2 :: aI v :: ls) (aI v :: st) h := ex_st cal (s := s_ild 3 9) rfl rfl
theorem u_Pl_workOut_9 (hl : Nat.ble st.length 4 = true) : ex cal k_Pl_workOut 9 (ls) (aI z2 :: aQ r1 :: aQ r0 :: aQ (some a) :: st) h = gO h a 5 (kk cal k_Pl_workOut 12 ls st (cal M_Pl_openSlots [aQ (some a), aQ r0, aQ r1, aI z2] h)) := e_callV cal (ci := 5) (as := [aI z2, aQ r1, aQ r0]) rfl (by decide) rfl (Nat.le_of_ble_eq_true hl)
theorem u_Pl_workOut_12 : ex cal k_Pl_workOut 12 (ls) (aI i :: st) h = if wr i = 0 then ex cal k_Pl_workOut 15 (ls) (st) h else ex cal k_Pl_workOut 17 (ls) (st) h := e_ifne cal rfl
theorem u_Pl_workOut_15 : ex cal k_Pl_workOut 15 (ls) (st) h = ex cal k_Pl_workOut 16 (ls) (aI 0 :: st) h := e_push cal rfl
theorem u_Pl_workOut_16 (hv : v = 0 ∨ v = 1) : ex cal k_Pl_workOut 16 (ls) ([aI v]) h = some (some (aI v), h) := e_ret22 rfl hv
theorem u_Pl_workOut_17 : ex cal k_Pl_workOut 17 (aQ r :: ls) (st) h = ex cal k_Pl_workOut 18 (aQ r :: ls) (aQ r :: st) h := ex_st cal (s := s_ald 0 18) rfl rfl
theorem u_Pl_workOut_18 (hl : Nat.ble st.length 4 = true) : ex cal k_Pl_workOut 18 (ls) (aQ (some a) :: st) h = gO h a 5 (kk cal k_Pl_workOut 21 ls st (cal M_Pl_countLeast [aQ (some a)] h)) := e_callV cal (ci := 5) (as := []) rfl (by decide) rfl (Nat.le_of_ble_eq_true hl)
theorem u_Pl_workOut_21 : ex cal k_Pl_workOut 21 (aQ r :: ls) (st) h = ex cal k_Pl_workOut 22 (aQ r :: ls) (aQ r :: st) h := ex_st cal (s := s_ald 0 22) rfl rfl
theorem u_Pl_workOut_22 : ex cal k_Pl_workOut 22 (aQ r :: ls) (st) h = ex cal k_Pl_workOut 23 (aQ r :: ls) (aQ r :: st) h := ex_st cal (s := s_ald 0 23) rfl rfl
theorem u_Pl_workOut_23 : ex cal k_Pl_workOut 23 (ls) (aQ (some a) :: st) h = gO h a 5 (ex cal k_Pl_workOut 26 (ls) (gf h a 5 :: st) h) := e_gf cal rfl
theorem u_Pl_workOut_26 : ex cal k_Pl_workOut 26 (aQ r :: ls) (st) h = ex cal k_Pl_workOut 27 (aQ r :: ls) (aQ r :: st) h := ex_st cal (s := s_ald 0 27) rfl rfl
theorem u_Pl_workOut_27 : ex cal k_Pl_workOut 27 (ls) (aQ (some a) :: st) h = gO h a 5 (ex cal k_Pl_workOut 30 (ls) (gf h a 3 :: st) h) := e_gf cal rfl
theorem u_Pl_workOut_30 : ex cal k_Pl_workOut 30 (ls) (aI i :: aQ (some a) :: st) h = gA h a i (ex cal k_Pl_workOut 31 (ls) (aI (ai h a (wr i)) :: st) h) := e_ia cal rfl
theorem u_Pl_workOut_31 : ex cal k_Pl_workOut 31 (ls) (aI v :: aQ (some a) :: st) h = gO h a 5 (ex cal k_Pl_workOut 34 (ls) (st) (pf h a 0 (aI v))) := e_pf1 rfl rfl
theorem u_Pl_workOut_34 : ex cal k_Pl_workOut 34 (aQ r :: ls) (st) h = ex cal k_Pl_workOut 35 (aQ r :: ls) (aQ r :: st) h := ex_st cal (s := s_ald 0 35) rfl rfl
theorem u_Pl_workOut_35 : ex cal k_Pl_workOut 35 (ls) (aQ (some a) :: st) h = gO h a 5 (ex cal k_Pl_workOut 38 (ls) (gf h a 0 :: st) h) := e_gf cal rfl
theorem u_Pl_workOut_38 : ex cal k_Pl_workOut 38 (ls) (st) h = ex cal k_Pl_workOut 40 (ls) (aI 1000000 :: st) h := e_push cal rfl
theorem u_Pl_workOut_40 : ex cal k_Pl_workOut 40 (ls) (aI j :: aI i :: st) h = if wr i < wr j then ex cal k_Pl_workOut 45 (ls) (st) h else ex cal k_Pl_workOut 43 (ls) (st) h := e_iclt cal rfl
theorem u_Pl_workOut_43 : ex cal k_Pl_workOut 43 (ls) (st) h = ex cal k_Pl_workOut 44 (ls) (aI 0 :: st) h := e_push cal rfl
theorem u_Pl_workOut_44 (hv : v = 0 ∨ v = 1) : ex cal k_Pl_workOut 44 (ls) ([aI v]) h = some (some (aI v), h) := e_ret22 rfl hv
theorem u_Pl_workOut_45 : ex cal k_Pl_workOut 45 (aQ r :: ls) (st) h = ex cal k_Pl_workOut 46 (aQ r :: ls) (aQ r :: st) h := ex_st cal (s := s_ald 0 46) rfl rfl
theorem u_Pl_workOut_46 (hl : Nat.ble st.length 4 = true) : ex cal k_Pl_workOut 46 (ls) (aQ (some a) :: st) h = gO h a 5 (kk cal k_Pl_workOut 49 ls st (cal M_Pl_choose [aQ (some a)] h)) := e_callV cal (ci := 5) (as := []) rfl (by decide) rfl (Nat.le_of_ble_eq_true hl)
theorem u_Pl_workOut_49 : ex cal k_Pl_workOut 49 (ls) (st) h = ex cal k_Pl_workOut 50 (ls) (aI 1 :: st) h := e_push cal rfl
theorem u_Pl_workOut_50 (hv : v = 0 ∨ v = 1) : ex cal k_Pl_workOut 50 (ls) ([aI v]) h = some (some (aI v), h) := e_ret22 rfl hv
theorem n_Pl_workOut (d : Nat) : ev (d + 1) M_Pl_workOut [aQ (some a), aQ r0, aQ r1, aI z2] h = ex (ev d) k_Pl_workOut 0 [aQ (some a), aQ r0, aQ r1, aI z2] [] h := rfl
theorem u_Pl_priceTasks_0 : ex cal k_Pl_priceTasks 0 (ls) (st) h = ex cal k_Pl_priceTasks 1 (ls) (aI 0 :: st) h := e_push cal rfl
theorem u_Pl_priceTasks_1 (hx : aNl x1 = true) : ex cal k_Pl_priceTasks 1 (x0 :: x1 :: y :: ls) (aI v :: st) h = ex cal k_Pl_priceTasks 2 (x0 :: x1 :: aI v :: ls) (st) h := e_ist (ls := x0 :: x1 :: y :: ls) (k := 2) rfl hx (by simp only [List.length_cons]; omega)
theorem u_Pl_priceTasks_2 : ex cal k_Pl_priceTasks 2 (x0 :: x1 :: aI v :: ls) (st) h = ex cal k_Pl_priceTasks 3 (x0 :: x1 :: aI v :: ls) (aI v :: st) h := ex_st cal (s := s_ild 2 3) rfl rfl
theorem u_Pl_priceTasks_3 : ex cal k_Pl_priceTasks 3 (ls) (st) h = ex cal k_Pl_priceTasks 5 (ls) (aI 8 :: st) h := e_push cal rfl
theorem u_Pl_priceTasks_5 : ex cal k_Pl_priceTasks 5 (ls) (aI j :: aI i :: st) h = if wr i < wr j then ex cal k_Pl_priceTasks 8 (ls) (st) h else ex cal k_Pl_priceTasks 83 (ls) (st) h := e_icge cal rfl
theorem u_Pl_priceTasks_8 : ex cal k_Pl_priceTasks 8 (ls) (st) h = ex cal k_Pl_priceTasks 9 (ls) (aI 0 :: st) h := e_push cal rfl
theorem u_Pl_priceTasks_9 (hx : aNl x2 = true) : ex cal k_Pl_priceTasks 9 (x0 :: x1 :: x2 :: y :: ls) (aI v :: st) h = ex cal k_Pl_priceTasks 10 (x0 :: x1 :: x2 :: aI v :: ls) (st) h := e_ist (ls := x0 :: x1 :: x2 :: y :: ls) (k := 3) rfl hx (by simp only [List.length_cons]; omega)
theorem u_Pl_priceTasks_10 : ex cal k_Pl_priceTasks 10 (x0 :: x1 :: x2 :: aI v :: ls) (st) h = ex cal k_Pl_priceTasks 11 (x0 :: x1 :: x2 :: aI v :: ls) (aI v :: st) h := ex_st cal (s := s_ild 3 11) rfl rfl
theorem u_Pl_priceTasks_11 : ex cal k_Pl_priceTasks 11 (ls) (st) h = ex cal k_Pl_priceTasks 13 (ls) (aI 6 :: st) h := e_push cal rfl
theorem u_Pl_priceTasks_13 : ex cal k_Pl_priceTasks 13 (ls) (aI j :: aI i :: st) h = if wr i < wr j then ex cal k_Pl_priceTasks 16 (ls) (st) h else ex cal k_Pl_priceTasks 77 (ls) (st) h := e_icge cal rfl
theorem u_Pl_priceTasks_16 : ex cal k_Pl_priceTasks 16 (x0 :: aQ r :: ls) (st) h = ex cal k_Pl_priceTasks 17 (x0 :: aQ r :: ls) (aQ r :: st) h := ex_st cal (s := s_ald 1 17) rfl rfl
theorem u_Pl_priceTasks_17 : ex cal k_Pl_priceTasks 17 (x0 :: x1 :: aI v :: ls) (st) h = ex cal k_Pl_priceTasks 18 (x0 :: x1 :: aI v :: ls) (aI v :: st) h := ex_st cal (s := s_ild 2 18) rfl rfl
theorem u_Pl_priceTasks_18 (hl : Nat.ble st.length 4 = true) : ex cal k_Pl_priceTasks 18 (ls) (aI z0 :: aQ (some a) :: st) h = gO h a 7 (kk cal k_Pl_priceTasks 21 ls st (cal M_St_isPerson [aQ (some a), aI z0] h)) := e_callV cal (ci := 7) (as := [aI z0]) rfl (by decide) rfl (Nat.le_of_ble_eq_true hl)
theorem u_Pl_priceTasks_21 : ex cal k_Pl_priceTasks 21 (ls) (aI i :: st) h = if wr i = 0 then ex cal k_Pl_priceTasks 36 (ls) (st) h else ex cal k_Pl_priceTasks 24 (ls) (st) h := e_ifeq cal rfl
theorem u_Pl_priceTasks_24 : ex cal k_Pl_priceTasks 24 (x0 :: aQ r :: ls) (st) h = ex cal k_Pl_priceTasks 25 (x0 :: aQ r :: ls) (aQ r :: st) h := ex_st cal (s := s_ald 1 25) rfl rfl
theorem u_Pl_priceTasks_25 : ex cal k_Pl_priceTasks 25 (x0 :: x1 :: aI v :: ls) (st) h = ex cal k_Pl_priceTasks 26 (x0 :: x1 :: aI v :: ls) (aI v :: st) h := ex_st cal (s := s_ild 2 26) rfl rfl
theorem u_Pl_priceTasks_26 (hl : Nat.ble st.length 4 = true) : ex cal k_Pl_priceTasks 26 (ls) (aI z0 :: aQ (some a) :: st) h = gO h a 7 (kk cal k_Pl_priceTasks 29 ls st (cal M_St_isHere [aQ (some a), aI z0] h)) := e_callV cal (ci := 7) (as := [aI z0]) rfl (by decide) rfl (Nat.le_of_ble_eq_true hl)
theorem u_Pl_priceTasks_29 : ex cal k_Pl_priceTasks 29 (ls) (aI i :: st) h = if wr i = 0 then ex cal k_Pl_priceTasks 36 (ls) (st) h else ex cal k_Pl_priceTasks 32 (ls) (st) h := e_ifeq cal rfl
theorem u_Pl_priceTasks_32 : ex cal k_Pl_priceTasks 32 (ls) (st) h = ex cal k_Pl_priceTasks 33 (ls) (aI 1 :: st) h := e_push cal rfl
theorem u_Pl_priceTasks_33 : ex cal k_Pl_priceTasks 33 (ls) (st) h = ex cal k_Pl_priceTasks 37 (ls) (st) h := ex_st cal (s := s_go 37) rfl rfl
theorem u_Pl_priceTasks_36 : ex cal k_Pl_priceTasks 36 (ls) (st) h = ex cal k_Pl_priceTasks 37 (ls) (aI 0 :: st) h := e_push cal rfl
theorem u_Pl_priceTasks_37 (hx : aNl x3 = true) : ex cal k_Pl_priceTasks 37 (x0 :: x1 :: x2 :: x3 :: y :: ls) (aI v :: st) h = ex cal k_Pl_priceTasks 39 (x0 :: x1 :: x2 :: x3 :: aI v :: ls) (st) h := e_ist (ls := x0 :: x1 :: x2 :: x3 :: y :: ls) (k := 4) rfl hx (by simp only [List.length_cons]; omega)
theorem u_Pl_priceTasks_39 : ex cal k_Pl_priceTasks 39 (aQ r :: ls) (st) h = ex cal k_Pl_priceTasks 40 (aQ r :: ls) (aQ r :: st) h := ex_st cal (s := s_ald 0 40) rfl rfl
theorem u_Pl_priceTasks_40 : ex cal k_Pl_priceTasks 40 (ls) (aQ (some a) :: st) h = gO h a 5 (ex cal k_Pl_priceTasks 43 (ls) (gf h a 4 :: st) h) := e_gf cal rfl
theorem u_Pl_priceTasks_43 : ex cal k_Pl_priceTasks 43 (x0 :: x1 :: aI v :: ls) (st) h = ex cal k_Pl_priceTasks 44 (x0 :: x1 :: aI v :: ls) (aI v :: st) h := ex_st cal (s := s_ild 2 44) rfl rfl
theorem u_Pl_priceTasks_44 : ex cal k_Pl_priceTasks 44 (ls) (st) h = ex cal k_Pl_priceTasks 46 (ls) (aI 6 :: st) h := e_push cal rfl
theorem u_Pl_priceTasks_46 : ex cal k_Pl_priceTasks 46 (ls) (aI j :: aI i :: st) h = ex cal k_Pl_priceTasks 47 (ls) (aI (i * j) :: st) h := e_bin cal rfl
theorem u_Pl_priceTasks_47 : ex cal k_Pl_priceTasks 47 (x0 :: x1 :: x2 :: aI v :: ls) (st) h = ex cal k_Pl_priceTasks 48 (x0 :: x1 :: x2 :: aI v :: ls) (aI v :: st) h := ex_st cal (s := s_ild 3 48) rfl rfl
theorem u_Pl_priceTasks_48 : ex cal k_Pl_priceTasks 48 (ls) (aI j :: aI i :: st) h = ex cal k_Pl_priceTasks 49 (ls) (aI (i + j) :: st) h := e_bin cal rfl
theorem u_Pl_priceTasks_49 : ex cal k_Pl_priceTasks 49 (x0 :: x1 :: x2 :: x3 :: aI v :: ls) (st) h = ex cal k_Pl_priceTasks 51 (x0 :: x1 :: x2 :: x3 :: aI v :: ls) (aI v :: st) h := ex_st cal (s := s_ild 4 51) rfl rfl
theorem u_Pl_priceTasks_51 : ex cal k_Pl_priceTasks 51 (ls) (aI i :: st) h = if wr i = 0 then ex cal k_Pl_priceTasks 68 (ls) (st) h else ex cal k_Pl_priceTasks 54 (ls) (st) h := e_ifeq cal rfl
theorem u_Pl_priceTasks_54 : ex cal k_Pl_priceTasks 54 (x0 :: aQ r :: ls) (st) h = ex cal k_Pl_priceTasks 55 (x0 :: aQ r :: ls) (aQ r :: st) h := ex_st cal (s := s_ald 1 55) rfl rfl
theorem u_Pl_priceTasks_55 : ex cal k_Pl_priceTasks 55 (x0 :: x1 :: aI v :: ls) (st) h = ex cal k_Pl_priceTasks 56 (x0 :: x1 :: aI v :: ls) (aI v :: st) h := ex_st cal (s := s_ild 2 56) rfl rfl
theorem u_Pl_priceTasks_56 : ex cal k_Pl_priceTasks 56 (x0 :: aQ r :: ls) (st) h = ex cal k_Pl_priceTasks 57 (x0 :: aQ r :: ls) (aQ r :: st) h := ex_st cal (s := s_ald 1 57) rfl rfl
theorem u_Pl_priceTasks_57 : ex cal k_Pl_priceTasks 57 (ls) (aQ (some a) :: st) h = gO h a 7 (ex cal k_Pl_priceTasks 60 (ls) (gf h a 7 :: st) h) := e_gf cal rfl
theorem u_Pl_priceTasks_60 : ex cal k_Pl_priceTasks 60 (x0 :: x1 :: x2 :: aI v :: ls) (st) h = ex cal k_Pl_priceTasks 61 (x0 :: x1 :: x2 :: aI v :: ls) (aI v :: st) h := ex_st cal (s := s_ild 3 61) rfl rfl
theorem u_Pl_priceTasks_61 : ex cal k_Pl_priceTasks 61 (ls) (aI i :: aQ (some a) :: st) h = gR h a 0 i (ex cal k_Pl_priceTasks 62 (ls) (aQ (ra h a (wr i)) :: st) h) := e_ra cal rfl
theorem u_Pl_priceTasks_62 (hl : Nat.ble st.length 4 = true) : ex cal k_Pl_priceTasks 62 (ls) (aQ r2 :: aI z1 :: aQ r0 :: st) h = kk cal k_Pl_priceTasks 65 ls st (cal M_Pl_priceOf [aQ r0, aI z1, aQ r2] h) := e_call cal (as := [aQ r2, aI z1, aQ r0]) rfl rfl (Nat.le_of_ble_eq_true hl)
theorem u_Pl_priceTasks_65 : ex cal k_Pl_priceTasks 65 (ls) (st) h = ex cal k_Pl_priceTasks 70 (ls) (st) h := ex_st cal (s := s_go 70) rfl rfl
theorem u_Pl_priceTasks_68 : ex cal k_Pl_priceTasks 68 (ls) (st) h = ex cal k_Pl_priceTasks 70 (ls) (aI 1000000 :: st) h := e_push cal rfl
theorem u_Pl_priceTasks_70 (h3 : 3 ≤ a) : ex cal k_Pl_priceTasks 70 (ls) (aI v :: aI i :: aQ (some a) :: st) h = gA h a i (ex cal k_Pl_priceTasks 71 (ls) (st) (sa h a (upf (ai h a) (wr i) v))) := e_ias cal rfl h3
theorem u_Pl_priceTasks_71 (hx : aNl x2 = true) : ex cal k_Pl_priceTasks 71 (x0 :: x1 :: x2 :: aI v :: ls) (st) h = ex cal k_Pl_priceTasks 74 (x0 :: x1 :: x2 :: aI (v + 1) :: ls) (st) h := e_inc (ls := x0 :: x1 :: x2 :: aI v :: ls) (k := 3) rfl rfl hx
theorem u_Pl_priceTasks_74 : ex cal k_Pl_priceTasks 74 (ls) (st) h = ex cal k_Pl_priceTasks 10 (ls) (st) h := ex_st cal (s := s_go 10) rfl rfl
theorem u_Pl_priceTasks_77 (hx : aNl x1 = true) : ex cal k_Pl_priceTasks 77 (x0 :: x1 :: aI v :: ls) (st) h = ex cal k_Pl_priceTasks 80 (x0 :: x1 :: aI (v + 1) :: ls) (st) h := e_inc (ls := x0 :: x1 :: aI v :: ls) (k := 2) rfl rfl hx
theorem u_Pl_priceTasks_80 : ex cal k_Pl_priceTasks 80 (ls) (st) h = ex cal k_Pl_priceTasks 2 (ls) (st) h := ex_st cal (s := s_go 2) rfl rfl
theorem u_Pl_priceTasks_83 : ex cal k_Pl_priceTasks 83 (ls) ([]) h = some (none, h) := e_ret0 cal rfl
theorem n_Pl_priceTasks (d : Nat) : ev (d + 1) M_Pl_priceTasks [aQ (some a), aQ r0] h = ex (ev d) k_Pl_priceTasks 0 [aQ (some a), aQ r0, aU, aU, aU] [] h := rfl
theorem u_Pl_priceOf_0 : ex cal k_Pl_priceOf 0 (x0 :: x1 :: aQ r :: ls) (st) h = ex cal k_Pl_priceOf 1 (x0 :: x1 :: aQ r :: ls) (aQ r :: st) h := ex_st cal (s := s_ald 2 1) rfl rfl
theorem u_Pl_priceOf_1 : ex cal k_Pl_priceOf 1 (x0 :: aI v :: ls) (st) h = ex cal k_Pl_priceOf 2 (x0 :: aI v :: ls) (aI v :: st) h := ex_st cal (s := s_ild 1 2) rfl rfl
theorem u_Pl_priceOf_2 : ex cal k_Pl_priceOf 2 (aQ r :: ls) (st) h = ex cal k_Pl_priceOf 3 (aQ r :: ls) (aQ r :: st) h := ex_st cal (s := s_ald 0 3) rfl rfl
theorem u_Pl_priceOf_3 : ex cal k_Pl_priceOf 3 (ls) (aQ (some a) :: st) h = gO h a 7 (ex cal k_Pl_priceOf 6 (ls) (gf h a 3 :: st) h) := e_gf cal rfl
theorem u_Pl_priceOf_6 (hl : Nat.ble st.length 4 = true) : ex cal k_Pl_priceOf 6 (ls) (aI z1 :: aI z0 :: aQ (some a) :: st) h = gO h a 4 (kk cal k_Pl_priceOf 9 ls st (cal M_Pg_knownBy [aQ (some a), aI z0, aI z1] h)) := e_callV cal (ci := 4) (as := [aI z1, aI z0]) rfl (by decide) rfl (Nat.le_of_ble_eq_true hl)
theorem u_Pl_priceOf_9 (hx : aNl x2 = true) : ex cal k_Pl_priceOf 9 (x0 :: x1 :: x2 :: y :: ls) (aI v :: st) h = ex cal k_Pl_priceOf 10 (x0 :: x1 :: x2 :: aI v :: ls) (st) h := e_ist (ls := x0 :: x1 :: x2 :: y :: ls) (k := 3) rfl hx (by simp only [List.length_cons]; omega)
theorem u_Pl_priceOf_10 : ex cal k_Pl_priceOf 10 (x0 :: x1 :: aQ r :: ls) (st) h = ex cal k_Pl_priceOf 11 (x0 :: x1 :: aQ r :: ls) (aQ r :: st) h := ex_st cal (s := s_ald 2 11) rfl rfl
theorem u_Pl_priceOf_11 (hl : Nat.ble st.length 4 = true) : ex cal k_Pl_priceOf 11 (ls) (aQ (some a) :: st) h = gO h a 4 (kk cal k_Pl_priceOf 14 ls st (cal M_Pg_size [aQ (some a)] h)) := e_callV cal (ci := 4) (as := []) rfl (by decide) rfl (Nat.le_of_ble_eq_true hl)
theorem u_Pl_priceOf_14 : ex cal k_Pl_priceOf 14 (x0 :: x1 :: x2 :: aI v :: ls) (st) h = ex cal k_Pl_priceOf 15 (x0 :: x1 :: x2 :: aI v :: ls) (aI v :: st) h := ex_st cal (s := s_ild 3 15) rfl rfl
theorem u_Pl_priceOf_15 : ex cal k_Pl_priceOf 15 (ls) (aI j :: aI i :: st) h = ex cal k_Pl_priceOf 16 (ls) (aI (i - j) :: st) h := e_bin cal rfl
theorem u_Pl_priceOf_16 (hx : aNl x3 = true) : ex cal k_Pl_priceOf 16 (x0 :: x1 :: x2 :: x3 :: y :: ls) (aI v :: st) h = ex cal k_Pl_priceOf 18 (x0 :: x1 :: x2 :: x3 :: aI v :: ls) (st) h := e_ist (ls := x0 :: x1 :: x2 :: x3 :: y :: ls) (k := 4) rfl hx (by simp only [List.length_cons]; omega)
theorem u_Pl_priceOf_18 : ex cal k_Pl_priceOf 18 (aQ r :: ls) (st) h = ex cal k_Pl_priceOf 19 (aQ r :: ls) (aQ r :: st) h := ex_st cal (s := s_ald 0 19) rfl rfl
theorem u_Pl_priceOf_19 : ex cal k_Pl_priceOf 19 (x0 :: x1 :: x2 :: aI v :: ls) (st) h = ex cal k_Pl_priceOf 20 (x0 :: x1 :: x2 :: aI v :: ls) (aI v :: st) h := ex_st cal (s := s_ild 3 20) rfl rfl
theorem u_Pl_priceOf_20 : ex cal k_Pl_priceOf 20 (x0 :: x1 :: aQ r :: ls) (st) h = ex cal k_Pl_priceOf 21 (x0 :: x1 :: aQ r :: ls) (aQ r :: st) h := ex_st cal (s := s_ald 2 21) rfl rfl
theorem u_Pl_priceOf_21 (hl : Nat.ble st.length 4 = true) : ex cal k_Pl_priceOf 21 (ls) (aQ r1 :: aI z0 :: aQ (some a) :: st) h = gO h a 7 (kk cal k_Pl_priceOf 24 ls st (cal M_St_isEnough [aQ (some a), aI z0, aQ r1] h)) := e_callV cal (ci := 7) (as := [aQ r1, aI z0]) rfl (by decide) rfl (Nat.le_of_ble_eq_true hl)
theorem u_Pl_priceOf_24 : ex cal k_Pl_priceOf 24 (ls) (aI i :: st) h = if wr i = 0 then ex cal k_Pl_priceOf 27 (ls) (st) h else ex cal k_Pl_priceOf 59 (ls) (st) h := e_ifne cal rfl
theorem u_Pl_priceOf_27 : ex cal k_Pl_priceOf 27 (x0 :: x1 :: x2 :: x3 :: aI v :: ls) (st) h = ex cal k_Pl_priceOf 29 (x0 :: x1 :: x2 :: x3 :: aI v :: ls) (aI v :: st) h := ex_st cal (s := s_ild 4 29) rfl rfl
theorem u_Pl_priceOf_29 : ex cal k_Pl_priceOf 29 (aQ r :: ls) (st) h = ex cal k_Pl_priceOf 30 (aQ r :: ls) (aQ r :: st) h := ex_st cal (s := s_ald 0 30) rfl rfl
theorem u_Pl_priceOf_30 : ex cal k_Pl_priceOf 30 (ls) (aQ (some a) :: st) h = gO h a 7 (ex cal k_Pl_priceOf 33 (ls) (gf h a 1 :: st) h) := e_gf cal rfl
theorem u_Pl_priceOf_33 : ex cal k_Pl_priceOf 33 (x0 :: aI v :: ls) (st) h = ex cal k_Pl_priceOf 34 (x0 :: aI v :: ls) (aI v :: st) h := ex_st cal (s := s_ild 1 34) rfl rfl
theorem u_Pl_priceOf_34 : ex cal k_Pl_priceOf 34 (ls) (aI i :: aQ (some a) :: st) h = gA h a i (ex cal k_Pl_priceOf 35 (ls) (aI (ai h a (wr i)) :: st) h) := e_ia cal rfl
theorem u_Pl_priceOf_35 : ex cal k_Pl_priceOf 35 (ls) (aI j :: aI i :: st) h = if wr j < wr i then ex cal k_Pl_priceOf 59 (ls) (st) h else ex cal k_Pl_priceOf 38 (ls) (st) h := e_icgt cal rfl
theorem u_Pl_priceOf_38 : ex cal k_Pl_priceOf 38 (aQ r :: ls) (st) h = ex cal k_Pl_priceOf 39 (aQ r :: ls) (aQ r :: st) h := ex_st cal (s := s_ald 0 39) rfl rfl
theorem u_Pl_priceOf_39 : ex cal k_Pl_priceOf 39 (x0 :: x1 :: aQ r :: ls) (st) h = ex cal k_Pl_priceOf 40 (x0 :: x1 :: aQ r :: ls) (aQ r :: st) h := ex_st cal (s := s_ald 2 40) rfl rfl
theorem u_Pl_priceOf_40 : ex cal k_Pl_priceOf 40 (x0 :: aI v :: ls) (st) h = ex cal k_Pl_priceOf 41 (x0 :: aI v :: ls) (aI v :: st) h := ex_st cal (s := s_ild 1 41) rfl rfl
theorem u_Pl_priceOf_41 : ex cal k_Pl_priceOf 41 (aQ r :: ls) (st) h = ex cal k_Pl_priceOf 42 (aQ r :: ls) (aQ r :: st) h := ex_st cal (s := s_ald 0 42) rfl rfl
theorem u_Pl_priceOf_42 : ex cal k_Pl_priceOf 42 (ls) (aQ (some a) :: st) h = gO h a 7 (ex cal k_Pl_priceOf 45 (ls) (gf h a 3 :: st) h) := e_gf cal rfl
theorem u_Pl_priceOf_45 (hl : Nat.ble st.length 4 = true) : ex cal k_Pl_priceOf 45 (ls) (aI z1 :: aI z0 :: aQ (some a) :: st) h = gO h a 4 (kk cal k_Pl_priceOf 48 ls st (cal M_Pg_knownIfRead [aQ (some a), aI z0, aI z1] h)) := e_callV cal (ci := 4) (as := [aI z1, aI z0]) rfl (by decide) rfl (Nat.le_of_ble_eq_true hl)
theorem u_Pl_priceOf_48 : ex cal k_Pl_priceOf 48 (x0 :: x1 :: aQ r :: ls) (st) h = ex cal k_Pl_priceOf 49 (x0 :: x1 :: aQ r :: ls) (aQ r :: st) h := ex_st cal (s := s_ald 2 49) rfl rfl
theorem u_Pl_priceOf_49 (hl : Nat.ble st.length 4 = true) : ex cal k_Pl_priceOf 49 (ls) (aQ r1 :: aI z0 :: aQ (some a) :: st) h = gO h a 7 (kk cal k_Pl_priceOf 52 ls st (cal M_St_isEnough [aQ (some a), aI z0, aQ r1] h)) := e_callV cal (ci := 7) (as := [aQ r1, aI z0]) rfl (by decide) rfl (Nat.le_of_ble_eq_true hl)
theorem u_Pl_priceOf_52 : ex cal k_Pl_priceOf 52 (ls) (aI i :: st) h = if wr i = 0 then ex cal k_Pl_priceOf 59 (ls) (st) h else ex cal k_Pl_priceOf 55 (ls) (st) h := e_ifeq cal rfl
theorem u_Pl_priceOf_55 : ex cal k_Pl_priceOf 55 (ls) (st) h = ex cal k_Pl_priceOf 56 (ls) (aI 1 :: st) h := e_push cal rfl
theorem u_Pl_priceOf_56 : ex cal k_Pl_priceOf 56 (ls) (st) h = ex cal k_Pl_priceOf 60 (ls) (st) h := ex_st cal (s := s_go 60) rfl rfl
theorem u_Pl_priceOf_59 : ex cal k_Pl_priceOf 59 (ls) (st) h = ex cal k_Pl_priceOf 60 (ls) (aI 0 :: st) h := e_push cal rfl
theorem u_Pl_priceOf_60 (hx : aNl x4 = true) : ex cal k_Pl_priceOf 60 (x0 :: x1 :: x2 :: x3 :: x4 :: y :: ls) (aI v :: st) h = ex cal k_Pl_priceOf 62 (x0 :: x1 :: x2 :: x3 :: x4 :: aI v :: ls) (st) h := e_ist (ls := x0 :: x1 :: x2 :: x3 :: x4 :: y :: ls) (k := 5) rfl hx (by simp only [List.length_cons]; omega)
theorem u_Pl_priceOf_62 : ex cal k_Pl_priceOf 62 (x0 :: x1 :: x2 :: x3 :: x4 :: aI v :: ls) (st) h = ex cal k_Pl_priceOf 64 (x0 :: x1 :: x2 :: x3 :: x4 :: aI v :: ls) (aI v :: st) h := ex_st cal (s := s_ild 5 64) rfl rfl
theorem u_Pl_priceOf_64 : ex cal k_Pl_priceOf 64 (ls) (aI i :: st) h = if wr i = 0 then ex cal k_Pl_priceOf 72 (ls) (st) h else ex cal k_Pl_priceOf 67 (ls) (st) h := e_ifeq cal rfl
theorem u_Pl_priceOf_67 : ex cal k_Pl_priceOf 67 (x0 :: x1 :: x2 :: x3 :: aI v :: ls) (st) h = ex cal k_Pl_priceOf 69 (x0 :: x1 :: x2 :: x3 :: aI v :: ls) (aI v :: st) h := ex_st cal (s := s_ild 4 69) rfl rfl
theorem u_Pl_priceOf_69 : ex cal k_Pl_priceOf 69 (ls) (st) h = ex cal k_Pl_priceOf 74 (ls) (st) h := ex_st cal (s := s_go 74) rfl rfl
theorem u_Pl_priceOf_72 : ex cal k_Pl_priceOf 72 (ls) (st) h = ex cal k_Pl_priceOf 74 (ls) (aI 1000000 :: st) h := e_push cal rfl
theorem u_Pl_priceOf_74 : ex cal k_Pl_priceOf 74 (ls) ([aI v]) h = some (some (aI v), h) := e_ret1 cal rfl
theorem n_Pl_priceOf (d : Nat) : ev (d + 1) M_Pl_priceOf [aQ r0, aI z1, aQ r2] h = ex (ev d) k_Pl_priceOf 0 [aQ r0, aI z1, aQ r2, aU, aU, aU] [] h := rfl
theorem u_Pl_openSlots_0 : ex cal k_Pl_openSlots 0 (ls) (st) h = ex cal k_Pl_openSlots 1 (ls) (aI 0 :: st) h := e_push cal rfl
theorem u_Pl_openSlots_1 (hx : aNl x3 = true) : ex cal k_Pl_openSlots 1 (x0 :: x1 :: x2 :: x3 :: y :: ls) (aI v :: st) h = ex cal k_Pl_openSlots 3 (x0 :: x1 :: x2 :: x3 :: aI v :: ls) (st) h := e_ist (ls := x0 :: x1 :: x2 :: x3 :: y :: ls) (k := 4) rfl hx (by simp only [List.length_cons]; omega)
theorem u_Pl_openSlots_3 : ex cal k_Pl_openSlots 3 (ls) (st) h = ex cal k_Pl_openSlots 4 (ls) (aI 0 :: st) h := e_push cal rfl
theorem u_Pl_openSlots_4 (hx : aNl x4 = true) : ex cal k_Pl_openSlots 4 (x0 :: x1 :: x2 :: x3 :: x4 :: y :: ls) (aI v :: st) h = ex cal k_Pl_openSlots 6 (x0 :: x1 :: x2 :: x3 :: x4 :: aI v :: ls) (st) h := e_ist (ls := x0 :: x1 :: x2 :: x3 :: x4 :: y :: ls) (k := 5) rfl hx (by simp only [List.length_cons]; omega)
theorem u_Pl_openSlots_6 : ex cal k_Pl_openSlots 6 (x0 :: x1 :: x2 :: x3 :: x4 :: aI v :: ls) (st) h = ex cal k_Pl_openSlots 8 (x0 :: x1 :: x2 :: x3 :: x4 :: aI v :: ls) (aI v :: st) h := ex_st cal (s := s_ild 5 8) rfl rfl
theorem u_Pl_openSlots_8 : ex cal k_Pl_openSlots 8 (ls) (st) h = ex cal k_Pl_openSlots 10 (ls) (aI 6 :: st) h := e_push cal rfl
theorem u_Pl_openSlots_10 : ex cal k_Pl_openSlots 10 (ls) (aI j :: aI i :: st) h = if wr i < wr j then ex cal k_Pl_openSlots 13 (ls) (st) h else ex cal k_Pl_openSlots 85 (ls) (st) h := e_icge cal rfl
theorem u_Pl_openSlots_13 : ex cal k_Pl_openSlots 13 (x0 :: aQ r :: ls) (st) h = ex cal k_Pl_openSlots 14 (x0 :: aQ r :: ls) (aQ r :: st) h := ex_st cal (s := s_ald 1 14) rfl rfl
theorem u_Pl_openSlots_14 : ex cal k_Pl_openSlots 14 (ls) (aQ (some a) :: st) h = gO h a 7 (ex cal k_Pl_openSlots 17 (ls) (gf h a 7 :: st) h) := e_gf cal rfl
theorem u_Pl_openSlots_17 : ex cal k_Pl_openSlots 17 (x0 :: x1 :: x2 :: x3 :: x4 :: aI v :: ls) (st) h = ex cal k_Pl_openSlots 19 (x0 :: x1 :: x2 :: x3 :: x4 :: aI v :: ls) (aI v :: st) h := ex_st cal (s := s_ild 5 19) rfl rfl
theorem u_Pl_openSlots_19 : ex cal k_Pl_openSlots 19 (ls) (aI i :: aQ (some a) :: st) h = gR h a 0 i (ex cal k_Pl_openSlots 20 (ls) (aQ (ra h a (wr i)) :: st) h) := e_ra cal rfl
theorem u_Pl_openSlots_20 (hl : Nat.ble st.length 4 = true) : ex cal k_Pl_openSlots 20 (ls) (aQ (some a) :: st) h = gO h a 4 (kk cal k_Pl_openSlots 23 ls st (cal M_Pg_size [aQ (some a)] h)) := e_callV cal (ci := 4) (as := []) rfl (by decide) rfl (Nat.le_of_ble_eq_true hl)
theorem u_Pl_openSlots_23 : ex cal k_Pl_openSlots 23 (ls) (aI i :: st) h = if wr i = 0 then ex cal k_Pl_openSlots 26 (ls) (st) h else ex cal k_Pl_openSlots 30 (ls) (st) h := e_ifne cal rfl
theorem u_Pl_openSlots_26 : ex cal k_Pl_openSlots 26 (ls) (st) h = ex cal k_Pl_openSlots 27 (ls) (aI 0 :: st) h := e_push cal rfl
theorem u_Pl_openSlots_27 : ex cal k_Pl_openSlots 27 (ls) (st) h = ex cal k_Pl_openSlots 42 (ls) (st) h := ex_st cal (s := s_go 42) rfl rfl
theorem u_Pl_openSlots_30 : ex cal k_Pl_openSlots 30 (ls) (st) h = ex cal k_Pl_openSlots 31 (ls) (aI 0 :: st) h := e_push cal rfl
theorem u_Pl_openSlots_31 : ex cal k_Pl_openSlots 31 (x0 :: x1 :: x2 :: aI v :: ls) (st) h = ex cal k_Pl_openSlots 32 (x0 :: x1 :: x2 :: aI v :: ls) (aI v :: st) h := ex_st cal (s := s_ild 3 32) rfl rfl
theorem u_Pl_openSlots_32 : ex cal k_Pl_openSlots 32 (x0 :: x1 :: aQ r :: ls) (st) h = ex cal k_Pl_openSlots 33 (x0 :: x1 :: aQ r :: ls) (aQ r :: st) h := ex_st cal (s := s_ald 2 33) rfl rfl
theorem u_Pl_openSlots_33 : ex cal k_Pl_openSlots 33 (x0 :: x1 :: x2 :: x3 :: x4 :: aI v :: ls) (st) h = ex cal k_Pl_openSlots 35 (x0 :: x1 :: x2 :: x3 :: x4 :: aI v :: ls) (aI v :: st) h := ex_st cal (s := s_ild 5 35) rfl rfl
theorem u_Pl_openSlots_35 (hl : Nat.ble st.length 4 = true) : ex cal k_Pl_openSlots 35 (ls) (aI z0 :: aQ (some a) :: st) h = gO h a 8 (kk cal k_Pl_openSlots 38 ls st (cal M_Te_sizeOf [aQ (some a), aI z0] h)) := e_callV cal (ci := 8) (as := [aI z0]) rfl (by decide) rfl (Nat.le_of_ble_eq_true hl)
theorem u_Pl_openSlots_38 : ex cal k_Pl_openSlots 38 (ls) (aI j :: aI i :: st) h = ex cal k_Pl_openSlots 39 (ls) (aI (i - j) :: st) h := e_bin cal rfl
theorem u_Pl_openSlots_39 (hl : Nat.ble st.length 4 = true) : ex cal k_Pl_openSlots 39 (ls) (aI z1 :: aI z0 :: st) h = kk cal k_Pl_openSlots 42 ls st (cal M_J_max [aI z0, aI z1] h) := e_call cal (as := [aI z1, aI z0]) rfl rfl (Nat.le_of_ble_eq_true hl)
theorem u_Pl_openSlots_42 (hx : aNl x5 = true) : ex cal k_Pl_openSlots 42 (x0 :: x1 :: x2 :: x3 :: x4 :: x5 :: y :: ls) (aI v :: st) h = ex cal k_Pl_openSlots 44 (x0 :: x1 :: x2 :: x3 :: x4 :: x5 :: aI v :: ls) (st) h := e_ist (ls := x0 :: x1 :: x2 :: x3 :: x4 :: x5 :: y :: ls) (k := 6) rfl hx (by simp only [List.length_cons]; omega)
theorem u_Pl_openSlots_44 : ex cal k_Pl_openSlots 44 (x0 :: x1 :: x2 :: x3 :: aI v :: ls) (st) h = ex cal k_Pl_openSlots 46 (x0 :: x1 :: x2 :: x3 :: aI v :: ls) (aI v :: st) h := ex_st cal (s := s_ild 4 46) rfl rfl
theorem u_Pl_openSlots_46 : ex cal k_Pl_openSlots 46 (x0 :: x1 :: x2 :: x3 :: x4 :: x5 :: aI v :: ls) (st) h = ex cal k_Pl_openSlots 48 (x0 :: x1 :: x2 :: x3 :: x4 :: x5 :: aI v :: ls) (aI v :: st) h := ex_st cal (s := s_ild 6 48) rfl rfl
theorem u_Pl_openSlots_48 : ex cal k_Pl_openSlots 48 (ls) (aI j :: aI i :: st) h = ex cal k_Pl_openSlots 49 (ls) (aI (i + j) :: st) h := e_bin cal rfl
theorem u_Pl_openSlots_49 : ex cal k_Pl_openSlots 49 (ls) (st) h = ex cal k_Pl_openSlots 51 (ls) (aI 8 :: st) h := e_push cal rfl
theorem u_Pl_openSlots_51 : ex cal k_Pl_openSlots 51 (ls) (aI j :: aI i :: st) h = if wr j < wr i then ex cal k_Pl_openSlots 54 (ls) (st) h else ex cal k_Pl_openSlots 56 (ls) (st) h := e_icle cal rfl
theorem u_Pl_openSlots_54 : ex cal k_Pl_openSlots 54 (ls) (st) h = ex cal k_Pl_openSlots 55 (ls) (aI 0 :: st) h := e_push cal rfl
theorem u_Pl_openSlots_55 (hv : v = 0 ∨ v = 1) : ex cal k_Pl_openSlots 55 (ls) ([aI v]) h = some (some (aI v), h) := e_ret22 rfl hv
theorem u_Pl_openSlots_56 : ex cal k_Pl_openSlots 56 (aQ r :: ls) (st) h = ex cal k_Pl_openSlots 57 (aQ r :: ls) (aQ r :: st) h := ex_st cal (s := s_ald 0 57) rfl rfl
theorem u_Pl_openSlots_57 : ex cal k_Pl_openSlots 57 (ls) (aQ (some a) :: st) h = gO h a 5 (ex cal k_Pl_openSlots 60 (ls) (gf h a 2 :: st) h) := e_gf cal rfl
theorem u_Pl_openSlots_60 : ex cal k_Pl_openSlots 60 (x0 :: x1 :: x2 :: x3 :: x4 :: aI v :: ls) (st) h = ex cal k_Pl_openSlots 62 (x0 :: x1 :: x2 :: x3 :: x4 :: aI v :: ls) (aI v :: st) h := ex_st cal (s := s_ild 5 62) rfl rfl
theorem u_Pl_openSlots_62 : ex cal k_Pl_openSlots 62 (ls) (st) h = ex cal k_Pl_openSlots 63 (ls) (aI 1 :: st) h := e_push cal rfl
theorem u_Pl_openSlots_63 : ex cal k_Pl_openSlots 63 (x0 :: x1 :: x2 :: x3 :: x4 :: x5 :: aI v :: ls) (st) h = ex cal k_Pl_openSlots 65 (x0 :: x1 :: x2 :: x3 :: x4 :: x5 :: aI v :: ls) (aI v :: st) h := ex_st cal (s := s_ild 6 65) rfl rfl
theorem u_Pl_openSlots_65 : ex cal k_Pl_openSlots 65 (ls) (aI j :: aI i :: st) h = ex cal k_Pl_openSlots 66 (ls) (aI (wshl i j) :: st) h := e_bin cal rfl
theorem u_Pl_openSlots_66 : ex cal k_Pl_openSlots 66 (ls) (st) h = ex cal k_Pl_openSlots 67 (ls) (aI 1 :: st) h := e_push cal rfl
theorem u_Pl_openSlots_67 : ex cal k_Pl_openSlots 67 (ls) (aI j :: aI i :: st) h = ex cal k_Pl_openSlots 68 (ls) (aI (i - j) :: st) h := e_bin cal rfl
theorem u_Pl_openSlots_68 : ex cal k_Pl_openSlots 68 (x0 :: x1 :: x2 :: x3 :: aI v :: ls) (st) h = ex cal k_Pl_openSlots 70 (x0 :: x1 :: x2 :: x3 :: aI v :: ls) (aI v :: st) h := ex_st cal (s := s_ild 4 70) rfl rfl
theorem u_Pl_openSlots_70 : ex cal k_Pl_openSlots 70 (ls) (aI j :: aI i :: st) h = ex cal k_Pl_openSlots 71 (ls) (aI (wshl i j) :: st) h := e_bin cal rfl
theorem u_Pl_openSlots_71 (h3 : 3 ≤ a) : ex cal k_Pl_openSlots 71 (ls) (aI v :: aI i :: aQ (some a) :: st) h = gA h a i (ex cal k_Pl_openSlots 72 (ls) (st) (sa h a (upf (ai h a) (wr i) v))) := e_ias cal rfl h3
theorem u_Pl_openSlots_72 : ex cal k_Pl_openSlots 72 (x0 :: x1 :: x2 :: x3 :: aI v :: ls) (st) h = ex cal k_Pl_openSlots 74 (x0 :: x1 :: x2 :: x3 :: aI v :: ls) (aI v :: st) h := ex_st cal (s := s_ild 4 74) rfl rfl
theorem u_Pl_openSlots_74 : ex cal k_Pl_openSlots 74 (x0 :: x1 :: x2 :: x3 :: x4 :: x5 :: aI v :: ls) (st) h = ex cal k_Pl_openSlots 76 (x0 :: x1 :: x2 :: x3 :: x4 :: x5 :: aI v :: ls) (aI v :: st) h := ex_st cal (s := s_ild 6 76) rfl rfl
theorem u_Pl_openSlots_76 : ex cal k_Pl_openSlots 76 (ls) (aI j :: aI i :: st) h = ex cal k_Pl_openSlots 77 (ls) (aI (i + j) :: st) h := e_bin cal rfl
theorem u_Pl_openSlots_77 (hx : aNl x3 = true) : ex cal k_Pl_openSlots 77 (x0 :: x1 :: x2 :: x3 :: y :: ls) (aI v :: st) h = ex cal k_Pl_openSlots 79 (x0 :: x1 :: x2 :: x3 :: aI v :: ls) (st) h := e_ist (ls := x0 :: x1 :: x2 :: x3 :: y :: ls) (k := 4) rfl hx (by simp only [List.length_cons]; omega)
theorem u_Pl_openSlots_79 (hx : aNl x4 = true) : ex cal k_Pl_openSlots 79 (x0 :: x1 :: x2 :: x3 :: x4 :: aI v :: ls) (st) h = ex cal k_Pl_openSlots 82 (x0 :: x1 :: x2 :: x3 :: x4 :: aI (v + 1) :: ls) (st) h := e_inc (ls := x0 :: x1 :: x2 :: x3 :: x4 :: aI v :: ls) (k := 5) rfl rfl hx
theorem u_Pl_openSlots_82 : ex cal k_Pl_openSlots 82 (ls) (st) h = ex cal k_Pl_openSlots 6 (ls) (st) h := ex_st cal (s := s_go 6) rfl rfl
theorem u_Pl_openSlots_85 : ex cal k_Pl_openSlots 85 (aQ r :: ls) (st) h = ex cal k_Pl_openSlots 86 (aQ r :: ls) (aQ r :: st) h := ex_st cal (s := s_ald 0 86) rfl rfl
theorem u_Pl_openSlots_86 : ex cal k_Pl_openSlots 86 (ls) (st) h = ex cal k_Pl_openSlots 87 (ls) (aI 1 :: st) h := e_push cal rfl
theorem u_Pl_openSlots_87 : ex cal k_Pl_openSlots 87 (x0 :: x1 :: x2 :: x3 :: aI v :: ls) (st) h = ex cal k_Pl_openSlots 89 (x0 :: x1 :: x2 :: x3 :: aI v :: ls) (aI v :: st) h := ex_st cal (s := s_ild 4 89) rfl rfl
theorem u_Pl_openSlots_89 : ex cal k_Pl_openSlots 89 (ls) (aI j :: aI i :: st) h = ex cal k_Pl_openSlots 90 (ls) (aI (wshl i j) :: st) h := e_bin cal rfl
theorem u_Pl_openSlots_90 : ex cal k_Pl_openSlots 90 (ls) (st) h = ex cal k_Pl_openSlots 91 (ls) (aI 1 :: st) h := e_push cal rfl
theorem u_Pl_openSlots_91 : ex cal k_Pl_openSlots 91 (ls) (aI j :: aI i :: st) h = ex cal k_Pl_openSlots 92 (ls) (aI (i - j) :: st) h := e_bin cal rfl
theorem u_Pl_openSlots_92 : ex cal k_Pl_openSlots 92 (ls) (aI v :: aQ (some a) :: st) h = gO h a 5 (ex cal k_Pl_openSlots 95 (ls) (st) (pf h a 3 (aI v))) := e_pf1 rfl rfl
theorem u_Pl_openSlots_95 : ex cal k_Pl_openSlots 95 (ls) (st) h = ex cal k_Pl_openSlots 96 (ls) (aI 1 :: st) h := e_push cal rfl
theorem u_Pl_openSlots_96 (hv : v = 0 ∨ v = 1) : ex cal k_Pl_openSlots 96 (ls) ([aI v]) h = some (some (aI v), h) := e_ret22 rfl hv
theorem n_Pl_openSlots (d : Nat) : ev (d + 1) M_Pl_openSlots [aQ (some a), aQ r0, aQ r1, aI z2] h = ex (ev d) k_Pl_openSlots 0 [aQ (some a), aQ r0, aQ r1, aI z2, aU, aU, aU] [] h := rfl
theorem u_Pl_countLeast_0 : ex cal k_Pl_countLeast 0 (aQ r :: ls) (st) h = ex cal k_Pl_countLeast 1 (aQ r :: ls) (aQ r :: st) h := ex_st cal (s := s_ald 0 1) rfl rfl
theorem u_Pl_countLeast_1 : ex cal k_Pl_countLeast 1 (ls) (aQ (some a) :: st) h = gO h a 5 (ex cal k_Pl_countLeast 4 (ls) (gf h a 5 :: st) h) := e_gf cal rfl
theorem u_Pl_countLeast_4 : ex cal k_Pl_countLeast 4 (ls) (st) h = ex cal k_Pl_countLeast 6 (ls) (aI 1000000 :: st) h := e_push cal rfl
theorem u_Pl_countLeast_6 (hl : Nat.ble st.length 4 = true) : ex cal k_Pl_countLeast 6 (ls) (aI z1 :: aQ r0 :: st) h = kk cal k_Pl_countLeast 9 ls st (cal M_J_fill [aQ r0, aI z1] h) := e_call cal (as := [aI z1, aQ r0]) rfl rfl (Nat.le_of_ble_eq_true hl)
theorem u_Pl_countLeast_9 : ex cal k_Pl_countLeast 9 (aQ r :: ls) (st) h = ex cal k_Pl_countLeast 10 (aQ r :: ls) (aQ r :: st) h := ex_st cal (s := s_ald 0 10) rfl rfl
theorem u_Pl_countLeast_10 : ex cal k_Pl_countLeast 10 (ls) (aQ (some a) :: st) h = gO h a 5 (ex cal k_Pl_countLeast 13 (ls) (gf h a 5 :: st) h) := e_gf cal rfl
theorem u_Pl_countLeast_13 : ex cal k_Pl_countLeast 13 (ls) (st) h = ex cal k_Pl_countLeast 16 (ls) (aI 2048 :: st) h := e_push cal rfl
theorem u_Pl_countLeast_16 : ex cal k_Pl_countLeast 16 (ls) (st) h = ex cal k_Pl_countLeast 17 (ls) (aI 0 :: st) h := e_push cal rfl
theorem u_Pl_countLeast_17 (h3 : 3 ≤ a) : ex cal k_Pl_countLeast 17 (ls) (aI v :: aI i :: aQ (some a) :: st) h = gA h a i (ex cal k_Pl_countLeast 18 (ls) (st) (sa h a (upf (ai h a) (wr i) v))) := e_ias cal rfl h3
theorem u_Pl_countLeast_18 : ex cal k_Pl_countLeast 18 (ls) (st) h = ex cal k_Pl_countLeast 20 (ls) (aI 7 :: st) h := e_push cal rfl
theorem u_Pl_countLeast_20 (hx : aNl x0 = true) : ex cal k_Pl_countLeast 20 (x0 :: y :: ls) (aI v :: st) h = ex cal k_Pl_countLeast 21 (x0 :: aI v :: ls) (st) h := e_ist (ls := x0 :: y :: ls) (k := 1) rfl hx (by simp only [List.length_cons]; omega)
theorem u_Pl_countLeast_21 : ex cal k_Pl_countLeast 21 (x0 :: aI v :: ls) (st) h = ex cal k_Pl_countLeast 22 (x0 :: aI v :: ls) (aI v :: st) h := ex_st cal (s := s_ild 1 22) rfl rfl
theorem u_Pl_countLeast_22 : ex cal k_Pl_countLeast 22 (ls) (aI i :: st) h = if wr i < 0 then ex cal k_Pl_countLeast 104 (ls) (st) h else ex cal k_Pl_countLeast 25 (ls) (st) h := e_iflt cal rfl
theorem u_Pl_countLeast_25 : ex cal k_Pl_countLeast 25 (ls) (st) h = ex cal k_Pl_countLeast 26 (ls) (aI 0 :: st) h := e_push cal rfl
theorem u_Pl_countLeast_26 (hx : aNl x1 = true) : ex cal k_Pl_countLeast 26 (x0 :: x1 :: y :: ls) (aI v :: st) h = ex cal k_Pl_countLeast 27 (x0 :: x1 :: aI v :: ls) (st) h := e_ist (ls := x0 :: x1 :: y :: ls) (k := 2) rfl hx (by simp only [List.length_cons]; omega)
theorem u_Pl_countLeast_27 : ex cal k_Pl_countLeast 27 (x0 :: x1 :: aI v :: ls) (st) h = ex cal k_Pl_countLeast 28 (x0 :: x1 :: aI v :: ls) (aI v :: st) h := ex_st cal (s := s_ild 2 28) rfl rfl
theorem u_Pl_countLeast_28 : ex cal k_Pl_countLeast 28 (aQ r :: ls) (st) h = ex cal k_Pl_countLeast 29 (aQ r :: ls) (aQ r :: st) h := ex_st cal (s := s_ald 0 29) rfl rfl
theorem u_Pl_countLeast_29 : ex cal k_Pl_countLeast 29 (ls) (aQ (some a) :: st) h = gO h a 5 (ex cal k_Pl_countLeast 32 (ls) (gf h a 3 :: st) h) := e_gf cal rfl
theorem u_Pl_countLeast_32 : ex cal k_Pl_countLeast 32 (ls) (aI j :: aI i :: st) h = if wr j < wr i then ex cal k_Pl_countLeast 98 (ls) (st) h else ex cal k_Pl_countLeast 35 (ls) (st) h := e_icgt cal rfl
theorem u_Pl_countLeast_35 : ex cal k_Pl_countLeast 35 (aQ r :: ls) (st) h = ex cal k_Pl_countLeast 36 (aQ r :: ls) (aQ r :: st) h := ex_st cal (s := s_ald 0 36) rfl rfl
theorem u_Pl_countLeast_36 : ex cal k_Pl_countLeast 36 (ls) (aQ (some a) :: st) h = gO h a 5 (ex cal k_Pl_countLeast 39 (ls) (gf h a 5 :: st) h) := e_gf cal rfl
theorem u_Pl_countLeast_39 : ex cal k_Pl_countLeast 39 (x0 :: aI v :: ls) (st) h = ex cal k_Pl_countLeast 40 (x0 :: aI v :: ls) (aI v :: st) h := ex_st cal (s := s_ild 1 40) rfl rfl
theorem u_Pl_countLeast_40 : ex cal k_Pl_countLeast 40 (ls) (st) h = ex cal k_Pl_countLeast 41 (ls) (aI 1 :: st) h := e_push cal rfl
theorem u_Pl_countLeast_41 : ex cal k_Pl_countLeast 41 (ls) (aI j :: aI i :: st) h = ex cal k_Pl_countLeast 42 (ls) (aI (i + j) :: st) h := e_bin cal rfl
theorem u_Pl_countLeast_42 : ex cal k_Pl_countLeast 42 (ls) (st) h = ex cal k_Pl_countLeast 45 (ls) (aI 256 :: st) h := e_push cal rfl
theorem u_Pl_countLeast_45 : ex cal k_Pl_countLeast 45 (ls) (aI j :: aI i :: st) h = ex cal k_Pl_countLeast 46 (ls) (aI (i * j) :: st) h := e_bin cal rfl
theorem u_Pl_countLeast_46 : ex cal k_Pl_countLeast 46 (x0 :: x1 :: aI v :: ls) (st) h = ex cal k_Pl_countLeast 47 (x0 :: x1 :: aI v :: ls) (aI v :: st) h := ex_st cal (s := s_ild 2 47) rfl rfl
theorem u_Pl_countLeast_47 : ex cal k_Pl_countLeast 47 (ls) (aI j :: aI i :: st) h = ex cal k_Pl_countLeast 48 (ls) (aI (i + j) :: st) h := e_bin cal rfl
theorem u_Pl_countLeast_48 : ex cal k_Pl_countLeast 48 (ls) (aI i :: aQ (some a) :: st) h = gA h a i (ex cal k_Pl_countLeast 49 (ls) (aI (ai h a (wr i)) :: st) h) := e_ia cal rfl
theorem u_Pl_countLeast_49 (hx : aNl x2 = true) : ex cal k_Pl_countLeast 49 (x0 :: x1 :: x2 :: y :: ls) (aI v :: st) h = ex cal k_Pl_countLeast 50 (x0 :: x1 :: x2 :: aI v :: ls) (st) h := e_ist (ls := x0 :: x1 :: x2 :: y :: ls) (k := 3) rfl hx (by simp only [List.length_cons]; omega)
theorem u_Pl_countLeast_50 : ex cal k_Pl_countLeast 50 (ls) (st) h = ex cal k_Pl_countLeast 51 (ls) (aI 0 :: st) h := e_push cal rfl
theorem u_Pl_countLeast_51 (hx : aNl x3 = true) : ex cal k_Pl_countLeast 51 (x0 :: x1 :: x2 :: x3 :: y :: ls) (aI v :: st) h = ex cal k_Pl_countLeast 53 (x0 :: x1 :: x2 :: x3 :: aI v :: ls) (st) h := e_ist (ls := x0 :: x1 :: x2 :: x3 :: y :: ls) (k := 4) rfl hx (by simp only [List.length_cons]; omega)
theorem u_Pl_countLeast_53 : ex cal k_Pl_countLeast 53 (x0 :: x1 :: x2 :: x3 :: aI v :: ls) (st) h = ex cal k_Pl_countLeast 55 (x0 :: x1 :: x2 :: x3 :: aI v :: ls) (aI v :: st) h := ex_st cal (s := s_ild 4 55) rfl rfl
theorem u_Pl_countLeast_55 : ex cal k_Pl_countLeast 55 (ls) (st) h = ex cal k_Pl_countLeast 57 (ls) (aI 6 :: st) h := e_push cal rfl
theorem u_Pl_countLeast_57 : ex cal k_Pl_countLeast 57 (ls) (aI j :: aI i :: st) h = if wr i < wr j then ex cal k_Pl_countLeast 60 (ls) (st) h else ex cal k_Pl_countLeast 79 (ls) (st) h := e_icge cal rfl
theorem u_Pl_countLeast_60 : ex cal k_Pl_countLeast 60 (x0 :: x1 :: x2 :: aI v :: ls) (st) h = ex cal k_Pl_countLeast 61 (x0 :: x1 :: x2 :: aI v :: ls) (aI v :: st) h := ex_st cal (s := s_ild 3 61) rfl rfl
theorem u_Pl_countLeast_61 : ex cal k_Pl_countLeast 61 (aQ r :: ls) (st) h = ex cal k_Pl_countLeast 62 (aQ r :: ls) (aQ r :: st) h := ex_st cal (s := s_ald 0 62) rfl rfl
theorem u_Pl_countLeast_62 : ex cal k_Pl_countLeast 62 (x0 :: aI v :: ls) (st) h = ex cal k_Pl_countLeast 63 (x0 :: aI v :: ls) (aI v :: st) h := ex_st cal (s := s_ild 1 63) rfl rfl
theorem u_Pl_countLeast_63 : ex cal k_Pl_countLeast 63 (x0 :: x1 :: x2 :: x3 :: aI v :: ls) (st) h = ex cal k_Pl_countLeast 65 (x0 :: x1 :: x2 :: x3 :: aI v :: ls) (aI v :: st) h := ex_st cal (s := s_ild 4 65) rfl rfl
theorem u_Pl_countLeast_65 : ex cal k_Pl_countLeast 65 (x0 :: x1 :: aI v :: ls) (st) h = ex cal k_Pl_countLeast 66 (x0 :: x1 :: aI v :: ls) (aI v :: st) h := ex_st cal (s := s_ild 2 66) rfl rfl
theorem u_Pl_countLeast_66 (hl : Nat.ble st.length 4 = true) : ex cal k_Pl_countLeast 66 (ls) (aI z2 :: aI z1 :: aI z0 :: aQ (some a) :: st) h = gO h a 5 (kk cal k_Pl_countLeast 69 ls st (cal M_Pl_hoursWith [aQ (some a), aI z0, aI z1, aI z2] h)) := e_callV cal (ci := 5) (as := [aI z2, aI z1, aI z0]) rfl (by decide) rfl (Nat.le_of_ble_eq_true hl)
theorem u_Pl_countLeast_69 (hl : Nat.ble st.length 4 = true) : ex cal k_Pl_countLeast 69 (ls) (aI z1 :: aI z0 :: st) h = kk cal k_Pl_countLeast 72 ls st (cal M_J_min [aI z0, aI z1] h) := e_call cal (as := [aI z1, aI z0]) rfl rfl (Nat.le_of_ble_eq_true hl)
theorem u_Pl_countLeast_72 (hx : aNl x2 = true) : ex cal k_Pl_countLeast 72 (x0 :: x1 :: x2 :: y :: ls) (aI v :: st) h = ex cal k_Pl_countLeast 73 (x0 :: x1 :: x2 :: aI v :: ls) (st) h := e_ist (ls := x0 :: x1 :: x2 :: y :: ls) (k := 3) rfl hx (by simp only [List.length_cons]; omega)
theorem u_Pl_countLeast_73 (hx : aNl x3 = true) : ex cal k_Pl_countLeast 73 (x0 :: x1 :: x2 :: x3 :: aI v :: ls) (st) h = ex cal k_Pl_countLeast 76 (x0 :: x1 :: x2 :: x3 :: aI (v + 1) :: ls) (st) h := e_inc (ls := x0 :: x1 :: x2 :: x3 :: aI v :: ls) (k := 4) rfl rfl hx
theorem u_Pl_countLeast_76 : ex cal k_Pl_countLeast 76 (ls) (st) h = ex cal k_Pl_countLeast 53 (ls) (st) h := ex_st cal (s := s_go 53) rfl rfl
theorem u_Pl_countLeast_79 : ex cal k_Pl_countLeast 79 (aQ r :: ls) (st) h = ex cal k_Pl_countLeast 80 (aQ r :: ls) (aQ r :: st) h := ex_st cal (s := s_ald 0 80) rfl rfl
theorem u_Pl_countLeast_80 : ex cal k_Pl_countLeast 80 (ls) (aQ (some a) :: st) h = gO h a 5 (ex cal k_Pl_countLeast 83 (ls) (gf h a 5 :: st) h) := e_gf cal rfl
theorem u_Pl_countLeast_83 : ex cal k_Pl_countLeast 83 (x0 :: aI v :: ls) (st) h = ex cal k_Pl_countLeast 84 (x0 :: aI v :: ls) (aI v :: st) h := ex_st cal (s := s_ild 1 84) rfl rfl
theorem u_Pl_countLeast_84 : ex cal k_Pl_countLeast 84 (ls) (st) h = ex cal k_Pl_countLeast 87 (ls) (aI 256 :: st) h := e_push cal rfl
theorem u_Pl_countLeast_87 : ex cal k_Pl_countLeast 87 (ls) (aI j :: aI i :: st) h = ex cal k_Pl_countLeast 88 (ls) (aI (i * j) :: st) h := e_bin cal rfl
theorem u_Pl_countLeast_88 : ex cal k_Pl_countLeast 88 (x0 :: x1 :: aI v :: ls) (st) h = ex cal k_Pl_countLeast 89 (x0 :: x1 :: aI v :: ls) (aI v :: st) h := ex_st cal (s := s_ild 2 89) rfl rfl
theorem u_Pl_countLeast_89 : ex cal k_Pl_countLeast 89 (ls) (aI j :: aI i :: st) h = ex cal k_Pl_countLeast 90 (ls) (aI (i + j) :: st) h := e_bin cal rfl
theorem u_Pl_countLeast_90 : ex cal k_Pl_countLeast 90 (x0 :: x1 :: x2 :: aI v :: ls) (st) h = ex cal k_Pl_countLeast 91 (x0 :: x1 :: x2 :: aI v :: ls) (aI v :: st) h := ex_st cal (s := s_ild 3 91) rfl rfl
theorem u_Pl_countLeast_91 (h3 : 3 ≤ a) : ex cal k_Pl_countLeast 91 (ls) (aI v :: aI i :: aQ (some a) :: st) h = gA h a i (ex cal k_Pl_countLeast 92 (ls) (st) (sa h a (upf (ai h a) (wr i) v))) := e_ias cal rfl h3
theorem u_Pl_countLeast_92 (hx : aNl x1 = true) : ex cal k_Pl_countLeast 92 (x0 :: x1 :: aI v :: ls) (st) h = ex cal k_Pl_countLeast 95 (x0 :: x1 :: aI (v + 1) :: ls) (st) h := e_inc (ls := x0 :: x1 :: aI v :: ls) (k := 2) rfl rfl hx
theorem u_Pl_countLeast_95 : ex cal k_Pl_countLeast 95 (ls) (st) h = ex cal k_Pl_countLeast 27 (ls) (st) h := ex_st cal (s := s_go 27) rfl rfl
theorem u_Pl_countLeast_98 (hx : aNl x0 = true) : ex cal k_Pl_countLeast 98 (x0 :: aI v :: ls) (st) h = ex cal k_Pl_countLeast 101 (x0 :: aI (v + (-1)) :: ls) (st) h := e_inc (ls := x0 :: aI v :: ls) (k := 1) rfl rfl hx
theorem u_Pl_countLeast_101 : ex cal k_Pl_countLeast 101 (ls) (st) h = ex cal k_Pl_countLeast 21 (ls) (st) h := ex_st cal (s := s_go 21) rfl rfl
theorem u_Pl_countLeast_104 : ex cal k_Pl_countLeast 104 (ls) ([]) h = some (none, h) := e_ret0 cal rfl
theorem n_Pl_countLeast (d : Nat) : ev (d + 1) M_Pl_countLeast [aQ (some a)] h = ex (ev d) k_Pl_countLeast 0 [aQ (some a), aU, aU, aU, aU] [] h := rfl
theorem u_Pl_hoursWith_0 : ex cal k_Pl_hoursWith 0 (x0 :: x1 :: x2 :: aI v :: ls) (st) h = ex cal k_Pl_hoursWith 1 (x0 :: x1 :: x2 :: aI v :: ls) (aI v :: st) h := ex_st cal (s := s_ild 3 1) rfl rfl
theorem u_Pl_hoursWith_1 : ex cal k_Pl_hoursWith 1 (aQ r :: ls) (st) h = ex cal k_Pl_hoursWith 2 (aQ r :: ls) (aQ r :: st) h := ex_st cal (s := s_ald 0 2) rfl rfl
theorem u_Pl_hoursWith_2 : ex cal k_Pl_hoursWith 2 (ls) (aQ (some a) :: st) h = gO h a 5 (ex cal k_Pl_hoursWith 5 (ls) (gf h a 2 :: st) h) := e_gf cal rfl
theorem u_Pl_hoursWith_5 : ex cal k_Pl_hoursWith 5 (x0 :: x1 :: aI v :: ls) (st) h = ex cal k_Pl_hoursWith 6 (x0 :: x1 :: aI v :: ls) (aI v :: st) h := ex_st cal (s := s_ild 2 6) rfl rfl
theorem u_Pl_hoursWith_6 : ex cal k_Pl_hoursWith 6 (ls) (aI i :: aQ (some a) :: st) h = gA h a i (ex cal k_Pl_hoursWith 7 (ls) (aI (ai h a (wr i)) :: st) h) := e_ia cal rfl
theorem u_Pl_hoursWith_7 : ex cal k_Pl_hoursWith 7 (ls) (aI j :: aI i :: st) h = ex cal k_Pl_hoursWith 8 (ls) (aI (wand i j) :: st) h := e_bin cal rfl
theorem u_Pl_hoursWith_8 : ex cal k_Pl_hoursWith 8 (ls) (aI i :: st) h = if wr i = 0 then ex cal k_Pl_hoursWith 27 (ls) (st) h else ex cal k_Pl_hoursWith 11 (ls) (st) h := e_ifeq cal rfl
theorem u_Pl_hoursWith_11 : ex cal k_Pl_hoursWith 11 (aQ r :: ls) (st) h = ex cal k_Pl_hoursWith 12 (aQ r :: ls) (aQ r :: st) h := ex_st cal (s := s_ald 0 12) rfl rfl
theorem u_Pl_hoursWith_12 : ex cal k_Pl_hoursWith 12 (ls) (aQ (some a) :: st) h = gO h a 5 (ex cal k_Pl_hoursWith 15 (ls) (gf h a 4 :: st) h) := e_gf cal rfl
theorem u_Pl_hoursWith_15 : ex cal k_Pl_hoursWith 15 (x0 :: aI v :: ls) (st) h = ex cal k_Pl_hoursWith 16 (x0 :: aI v :: ls) (aI v :: st) h := ex_st cal (s := s_ild 1 16) rfl rfl
theorem u_Pl_hoursWith_16 : ex cal k_Pl_hoursWith 16 (ls) (st) h = ex cal k_Pl_hoursWith 18 (ls) (aI 6 :: st) h := e_push cal rfl
theorem u_Pl_hoursWith_18 : ex cal k_Pl_hoursWith 18 (ls) (aI j :: aI i :: st) h = ex cal k_Pl_hoursWith 19 (ls) (aI (i * j) :: st) h := e_bin cal rfl
theorem u_Pl_hoursWith_19 : ex cal k_Pl_hoursWith 19 (x0 :: x1 :: aI v :: ls) (st) h = ex cal k_Pl_hoursWith 20 (x0 :: x1 :: aI v :: ls) (aI v :: st) h := ex_st cal (s := s_ild 2 20) rfl rfl
theorem u_Pl_hoursWith_20 : ex cal k_Pl_hoursWith 20 (ls) (aI j :: aI i :: st) h = ex cal k_Pl_hoursWith 21 (ls) (aI (i + j) :: st) h := e_bin cal rfl
theorem u_Pl_hoursWith_21 : ex cal k_Pl_hoursWith 21 (ls) (aI i :: aQ (some a) :: st) h = gA h a i (ex cal k_Pl_hoursWith 22 (ls) (aI (ai h a (wr i)) :: st) h) := e_ia cal rfl
theorem u_Pl_hoursWith_22 : ex cal k_Pl_hoursWith 22 (ls) (st) h = ex cal k_Pl_hoursWith 24 (ls) (aI 1000000 :: st) h := e_push cal rfl
theorem u_Pl_hoursWith_24 : ex cal k_Pl_hoursWith 24 (ls) (aI j :: aI i :: st) h = if wr i < wr j then ex cal k_Pl_hoursWith 30 (ls) (st) h else ex cal k_Pl_hoursWith 27 (ls) (st) h := e_iclt cal rfl
theorem u_Pl_hoursWith_27 : ex cal k_Pl_hoursWith 27 (ls) (st) h = ex cal k_Pl_hoursWith 29 (ls) (aI 1000000 :: st) h := e_push cal rfl
theorem u_Pl_hoursWith_29 : ex cal k_Pl_hoursWith 29 (ls) ([aI v]) h = some (some (aI v), h) := e_ret1 cal rfl
theorem u_Pl_hoursWith_30 : ex cal k_Pl_hoursWith 30 (aQ r :: ls) (st) h = ex cal k_Pl_hoursWith 31 (aQ r :: ls) (aQ r :: st) h := ex_st cal (s := s_ald 0 31) rfl rfl
theorem u_Pl_hoursWith_31 : ex cal k_Pl_hoursWith 31 (ls) (aQ (some a) :: st) h = gO h a 5 (ex cal k_Pl_hoursWith 34 (ls) (gf h a 4 :: st) h) := e_gf cal rfl
theorem u_Pl_hoursWith_34 : ex cal k_Pl_hoursWith 34 (x0 :: aI v :: ls) (st) h = ex cal k_Pl_hoursWith 35 (x0 :: aI v :: ls) (aI v :: st) h := ex_st cal (s := s_ild 1 35) rfl rfl
theorem u_Pl_hoursWith_35 : ex cal k_Pl_hoursWith 35 (ls) (st) h = ex cal k_Pl_hoursWith 37 (ls) (aI 6 :: st) h := e_push cal rfl
theorem u_Pl_hoursWith_37 : ex cal k_Pl_hoursWith 37 (ls) (aI j :: aI i :: st) h = ex cal k_Pl_hoursWith 38 (ls) (aI (i * j) :: st) h := e_bin cal rfl
theorem u_Pl_hoursWith_38 : ex cal k_Pl_hoursWith 38 (x0 :: x1 :: aI v :: ls) (st) h = ex cal k_Pl_hoursWith 39 (x0 :: x1 :: aI v :: ls) (aI v :: st) h := ex_st cal (s := s_ild 2 39) rfl rfl
theorem u_Pl_hoursWith_39 : ex cal k_Pl_hoursWith 39 (ls) (aI j :: aI i :: st) h = ex cal k_Pl_hoursWith 40 (ls) (aI (i + j) :: st) h := e_bin cal rfl
theorem u_Pl_hoursWith_40 : ex cal k_Pl_hoursWith 40 (ls) (aI i :: aQ (some a) :: st) h = gA h a i (ex cal k_Pl_hoursWith 41 (ls) (aI (ai h a (wr i)) :: st) h) := e_ia cal rfl
theorem u_Pl_hoursWith_41 : ex cal k_Pl_hoursWith 41 (aQ r :: ls) (st) h = ex cal k_Pl_hoursWith 42 (aQ r :: ls) (aQ r :: st) h := ex_st cal (s := s_ald 0 42) rfl rfl
theorem u_Pl_hoursWith_42 : ex cal k_Pl_hoursWith 42 (ls) (aQ (some a) :: st) h = gO h a 5 (ex cal k_Pl_hoursWith 45 (ls) (gf h a 5 :: st) h) := e_gf cal rfl
theorem u_Pl_hoursWith_45 : ex cal k_Pl_hoursWith 45 (x0 :: aI v :: ls) (st) h = ex cal k_Pl_hoursWith 46 (x0 :: aI v :: ls) (aI v :: st) h := ex_st cal (s := s_ild 1 46) rfl rfl
theorem u_Pl_hoursWith_46 : ex cal k_Pl_hoursWith 46 (ls) (st) h = ex cal k_Pl_hoursWith 47 (ls) (aI 1 :: st) h := e_push cal rfl
theorem u_Pl_hoursWith_47 : ex cal k_Pl_hoursWith 47 (ls) (aI j :: aI i :: st) h = ex cal k_Pl_hoursWith 48 (ls) (aI (i + j) :: st) h := e_bin cal rfl
theorem u_Pl_hoursWith_48 : ex cal k_Pl_hoursWith 48 (ls) (st) h = ex cal k_Pl_hoursWith 51 (ls) (aI 256 :: st) h := e_push cal rfl
theorem u_Pl_hoursWith_51 : ex cal k_Pl_hoursWith 51 (ls) (aI j :: aI i :: st) h = ex cal k_Pl_hoursWith 52 (ls) (aI (i * j) :: st) h := e_bin cal rfl
theorem u_Pl_hoursWith_52 : ex cal k_Pl_hoursWith 52 (aQ r :: ls) (st) h = ex cal k_Pl_hoursWith 53 (aQ r :: ls) (aQ r :: st) h := ex_st cal (s := s_ald 0 53) rfl rfl
theorem u_Pl_hoursWith_53 : ex cal k_Pl_hoursWith 53 (x0 :: x1 :: aI v :: ls) (st) h = ex cal k_Pl_hoursWith 54 (x0 :: x1 :: aI v :: ls) (aI v :: st) h := ex_st cal (s := s_ild 2 54) rfl rfl
theorem u_Pl_hoursWith_54 : ex cal k_Pl_hoursWith 54 (x0 :: x1 :: x2 :: aI v :: ls) (st) h = ex cal k_Pl_hoursWith 55 (x0 :: x1 :: x2 :: aI v :: ls) (aI v :: st) h := ex_st cal (s := s_ild 3 55) rfl rfl
theorem u_Pl_hoursWith_55 (hl : Nat.ble st.length 4 = true) : ex cal k_Pl_hoursWith 55 (ls) (aI z1 :: aI z0 :: aQ (some a) :: st) h = gO h a 5 (kk cal k_Pl_hoursWith 58 ls st (cal M_Pl_filled [aQ (some a), aI z0, aI z1] h)) := e_callV cal (ci := 5) (as := [aI z1, aI z0]) rfl (by decide) rfl (Nat.le_of_ble_eq_true hl)
theorem u_Pl_hoursWith_58 : ex cal k_Pl_hoursWith 58 (ls) (aI j :: aI i :: st) h = ex cal k_Pl_hoursWith 59 (ls) (aI (i + j) :: st) h := e_bin cal rfl
theorem u_Pl_hoursWith_59 : ex cal k_Pl_hoursWith 59 (ls) (aI i :: aQ (some a) :: st) h = gA h a i (ex cal k_Pl_hoursWith 60 (ls) (aI (ai h a (wr i)) :: st) h) := e_ia cal rfl
theorem u_Pl_hoursWith_60 : ex cal k_Pl_hoursWith 60 (ls) (aI j :: aI i :: st) h = ex cal k_Pl_hoursWith 61 (ls) (aI (i + j) :: st) h := e_bin cal rfl
theorem u_Pl_hoursWith_61 : ex cal k_Pl_hoursWith 61 (ls) ([aI v]) h = some (some (aI v), h) := e_ret1 cal rfl
theorem n_Pl_hoursWith (d : Nat) : ev (d + 1) M_Pl_hoursWith [aQ (some a), aI z0, aI z1, aI z2] h = ex (ev d) k_Pl_hoursWith 0 [aQ (some a), aI z0, aI z1, aI z2] [] h := rfl
theorem u_Pl_filled_0 : ex cal k_Pl_filled 0 (x0 :: x1 :: aI v :: ls) (st) h = ex cal k_Pl_filled 1 (x0 :: x1 :: aI v :: ls) (aI v :: st) h := ex_st cal (s := s_ild 2 1) rfl rfl
theorem u_Pl_filled_1 : ex cal k_Pl_filled 1 (x0 :: x1 :: aI v :: ls) (st) h = ex cal k_Pl_filled 2 (x0 :: x1 :: aI v :: ls) (aI v :: st) h := ex_st cal (s := s_ild 2 2) rfl rfl
theorem u_Pl_filled_2 : ex cal k_Pl_filled 2 (aQ r :: ls) (st) h = ex cal k_Pl_filled 3 (aQ r :: ls) (aQ r :: st) h := ex_st cal (s := s_ald 0 3) rfl rfl
theorem u_Pl_filled_3 : ex cal k_Pl_filled 3 (ls) (aQ (some a) :: st) h = gO h a 5 (ex cal k_Pl_filled 6 (ls) (gf h a 2 :: st) h) := e_gf cal rfl
theorem u_Pl_filled_6 : ex cal k_Pl_filled 6 (x0 :: aI v :: ls) (st) h = ex cal k_Pl_filled 7 (x0 :: aI v :: ls) (aI v :: st) h := ex_st cal (s := s_ild 1 7) rfl rfl
theorem u_Pl_filled_7 : ex cal k_Pl_filled 7 (ls) (aI i :: aQ (some a) :: st) h = gA h a i (ex cal k_Pl_filled 8 (ls) (aI (ai h a (wr i)) :: st) h) := e_ia cal rfl
theorem u_Pl_filled_8 : ex cal k_Pl_filled 8 (ls) (aI j :: aI i :: st) h = ex cal k_Pl_filled 9 (ls) (aI (wand i j) :: st) h := e_bin cal rfl
theorem u_Pl_filled_9 (hl : Nat.ble st.length 4 = true) : ex cal k_Pl_filled 9 (ls) (aI z0 :: st) h = kk cal k_Pl_filled 12 ls st (cal M_J_lowestOneBit [aI z0] h) := e_call cal (as := [aI z0]) rfl rfl (Nat.le_of_ble_eq_true hl)
theorem u_Pl_filled_12 : ex cal k_Pl_filled 12 (ls) (st) h = ex cal k_Pl_filled 13 (ls) (aI (-1) :: st) h := e_push cal rfl
theorem u_Pl_filled_13 : ex cal k_Pl_filled 13 (ls) (aI j :: aI i :: st) h = ex cal k_Pl_filled 14 (ls) (aI (wxor i j) :: st) h := e_bin cal rfl
theorem u_Pl_filled_14 : ex cal k_Pl_filled 14 (ls) (aI j :: aI i :: st) h = ex cal k_Pl_filled 15 (ls) (aI (wand i j) :: st) h := e_bin cal rfl
theorem u_Pl_filled_15 : ex cal k_Pl_filled 15 (ls) ([aI v]) h = some (some (aI v), h) := e_ret1 cal rfl
theorem n_Pl_filled (d : Nat) : ev (d + 1) M_Pl_filled [aQ (some a), aI z0, aI z1] h = ex (ev d) k_Pl_filled 0 [aQ (some a), aI z0, aI z1] [] h := rfl
theorem u_Pl_choose_0 : ex cal k_Pl_choose 0 (aQ r :: ls) (st) h = ex cal k_Pl_choose 1 (aQ r :: ls) (aQ r :: st) h := ex_st cal (s := s_ald 0 1) rfl rfl
theorem u_Pl_choose_1 : ex cal k_Pl_choose 1 (ls) (aQ (some a) :: st) h = gO h a 5 (ex cal k_Pl_choose 4 (ls) (gf h a 3 :: st) h) := e_gf cal rfl
theorem u_Pl_choose_4 (hx : aNl x0 = true) : ex cal k_Pl_choose 4 (x0 :: y :: ls) (aI v :: st) h = ex cal k_Pl_choose 5 (x0 :: aI v :: ls) (st) h := e_ist (ls := x0 :: y :: ls) (k := 1) rfl hx (by simp only [List.length_cons]; omega)
theorem u_Pl_choose_5 : ex cal k_Pl_choose 5 (ls) (st) h = ex cal k_Pl_choose 6 (ls) (aI 0 :: st) h := e_push cal rfl
theorem u_Pl_choose_6 (hx : aNl x1 = true) : ex cal k_Pl_choose 6 (x0 :: x1 :: y :: ls) (aI v :: st) h = ex cal k_Pl_choose 7 (x0 :: x1 :: aI v :: ls) (st) h := e_ist (ls := x0 :: x1 :: y :: ls) (k := 2) rfl hx (by simp only [List.length_cons]; omega)
theorem u_Pl_choose_7 : ex cal k_Pl_choose 7 (x0 :: x1 :: aI v :: ls) (st) h = ex cal k_Pl_choose 8 (x0 :: x1 :: aI v :: ls) (aI v :: st) h := ex_st cal (s := s_ild 2 8) rfl rfl
theorem u_Pl_choose_8 : ex cal k_Pl_choose 8 (ls) (st) h = ex cal k_Pl_choose 10 (ls) (aI 8 :: st) h := e_push cal rfl
theorem u_Pl_choose_10 : ex cal k_Pl_choose 10 (ls) (aI j :: aI i :: st) h = if wr i < wr j then ex cal k_Pl_choose 13 (ls) (st) h else ex cal k_Pl_choose 53 (ls) (st) h := e_icge cal rfl
theorem u_Pl_choose_13 : ex cal k_Pl_choose 13 (aQ r :: ls) (st) h = ex cal k_Pl_choose 14 (aQ r :: ls) (aQ r :: st) h := ex_st cal (s := s_ald 0 14) rfl rfl
theorem u_Pl_choose_14 : ex cal k_Pl_choose 14 (ls) (aQ (some a) :: st) h = gO h a 5 (ex cal k_Pl_choose 17 (ls) (gf h a 1 :: st) h) := e_gf cal rfl
theorem u_Pl_choose_17 : ex cal k_Pl_choose 17 (x0 :: x1 :: aI v :: ls) (st) h = ex cal k_Pl_choose 18 (x0 :: x1 :: aI v :: ls) (aI v :: st) h := ex_st cal (s := s_ild 2 18) rfl rfl
theorem u_Pl_choose_18 : ex cal k_Pl_choose 18 (aQ r :: ls) (st) h = ex cal k_Pl_choose 19 (aQ r :: ls) (aQ r :: st) h := ex_st cal (s := s_ald 0 19) rfl rfl
theorem u_Pl_choose_19 : ex cal k_Pl_choose 19 (x0 :: x1 :: aI v :: ls) (st) h = ex cal k_Pl_choose 20 (x0 :: x1 :: aI v :: ls) (aI v :: st) h := ex_st cal (s := s_ild 2 20) rfl rfl
theorem u_Pl_choose_20 : ex cal k_Pl_choose 20 (x0 :: aI v :: ls) (st) h = ex cal k_Pl_choose 21 (x0 :: aI v :: ls) (aI v :: st) h := ex_st cal (s := s_ild 1 21) rfl rfl
theorem u_Pl_choose_21 (hl : Nat.ble st.length 4 = true) : ex cal k_Pl_choose 21 (ls) (aI z1 :: aI z0 :: aQ (some a) :: st) h = gO h a 5 (kk cal k_Pl_choose 24 ls st (cal M_Pl_firstFile [aQ (some a), aI z0, aI z1] h)) := e_callV cal (ci := 5) (as := [aI z1, aI z0]) rfl (by decide) rfl (Nat.le_of_ble_eq_true hl)
theorem u_Pl_choose_24 (h3 : 3 ≤ a) : ex cal k_Pl_choose 24 (ls) (aI v :: aI i :: aQ (some a) :: st) h = gA h a i (ex cal k_Pl_choose 25 (ls) (st) (sa h a (upf (ai h a) (wr i) v))) := e_ias cal rfl h3
theorem u_Pl_choose_25 : ex cal k_Pl_choose 25 (aQ r :: ls) (st) h = ex cal k_Pl_choose 26 (aQ r :: ls) (aQ r :: st) h := ex_st cal (s := s_ald 0 26) rfl rfl
theorem u_Pl_choose_26 : ex cal k_Pl_choose 26 (ls) (aQ (some a) :: st) h = gO h a 5 (ex cal k_Pl_choose 29 (ls) (gf h a 1 :: st) h) := e_gf cal rfl
theorem u_Pl_choose_29 : ex cal k_Pl_choose 29 (x0 :: x1 :: aI v :: ls) (st) h = ex cal k_Pl_choose 30 (x0 :: x1 :: aI v :: ls) (aI v :: st) h := ex_st cal (s := s_ild 2 30) rfl rfl
theorem u_Pl_choose_30 : ex cal k_Pl_choose 30 (ls) (aI i :: aQ (some a) :: st) h = gA h a i (ex cal k_Pl_choose 31 (ls) (aI (ai h a (wr i)) :: st) h) := e_ia cal rfl
theorem u_Pl_choose_31 : ex cal k_Pl_choose 31 (ls) (st) h = ex cal k_Pl_choose 32 (ls) (aI (-1) :: st) h := e_push cal rfl
theorem u_Pl_choose_32 : ex cal k_Pl_choose 32 (ls) (aI j :: aI i :: st) h = if wr i = wr j then ex cal k_Pl_choose 47 (ls) (st) h else ex cal k_Pl_choose 35 (ls) (st) h := e_iceq cal rfl
theorem u_Pl_choose_35 : ex cal k_Pl_choose 35 (aQ r :: ls) (st) h = ex cal k_Pl_choose 36 (aQ r :: ls) (aQ r :: st) h := ex_st cal (s := s_ald 0 36) rfl rfl
theorem u_Pl_choose_36 : ex cal k_Pl_choose 36 (aQ r :: ls) (st) h = ex cal k_Pl_choose 37 (aQ r :: ls) (aQ r :: st) h := ex_st cal (s := s_ald 0 37) rfl rfl
theorem u_Pl_choose_37 : ex cal k_Pl_choose 37 (ls) (aQ (some a) :: st) h = gO h a 5 (ex cal k_Pl_choose 40 (ls) (gf h a 1 :: st) h) := e_gf cal rfl
theorem u_Pl_choose_40 : ex cal k_Pl_choose 40 (x0 :: x1 :: aI v :: ls) (st) h = ex cal k_Pl_choose 41 (x0 :: x1 :: aI v :: ls) (aI v :: st) h := ex_st cal (s := s_ild 2 41) rfl rfl
theorem u_Pl_choose_41 : ex cal k_Pl_choose 41 (ls) (aI i :: aQ (some a) :: st) h = gA h a i (ex cal k_Pl_choose 42 (ls) (aI (ai h a (wr i)) :: st) h) := e_ia cal rfl
theorem u_Pl_choose_42 : ex cal k_Pl_choose 42 (x0 :: aI v :: ls) (st) h = ex cal k_Pl_choose 43 (x0 :: aI v :: ls) (aI v :: st) h := ex_st cal (s := s_ild 1 43) rfl rfl
theorem u_Pl_choose_43 (hl : Nat.ble st.length 4 = true) : ex cal k_Pl_choose 43 (ls) (aI z1 :: aI z0 :: aQ (some a) :: st) h = gO h a 5 (kk cal k_Pl_choose 46 ls st (cal M_Pl_filled [aQ (some a), aI z0, aI z1] h)) := e_callV cal (ci := 5) (as := [aI z1, aI z0]) rfl (by decide) rfl (Nat.le_of_ble_eq_true hl)
theorem u_Pl_choose_46 (hx : aNl x0 = true) : ex cal k_Pl_choose 46 (x0 :: y :: ls) (aI v :: st) h = ex cal k_Pl_choose 47 (x0 :: aI v :: ls) (st) h := e_ist (ls := x0 :: y :: ls) (k := 1) rfl hx (by simp only [List.length_cons]; omega)
theorem u_Pl_choose_47 (hx : aNl x1 = true) : ex cal k_Pl_choose 47 (x0 :: x1 :: aI v :: ls) (st) h = ex cal k_Pl_choose 50 (x0 :: x1 :: aI (v + 1) :: ls) (st) h := e_inc (ls := x0 :: x1 :: aI v :: ls) (k := 2) rfl rfl hx
theorem u_Pl_choose_50 : ex cal k_Pl_choose 50 (ls) (st) h = ex cal k_Pl_choose 7 (ls) (st) h := ex_st cal (s := s_go 7) rfl rfl
theorem u_Pl_choose_53 : ex cal k_Pl_choose 53 (ls) ([]) h = some (none, h) := e_ret0 cal rfl
theorem n_Pl_choose (d : Nat) : ev (d + 1) M_Pl_choose [aQ (some a)] h = ex (ev d) k_Pl_choose 0 [aQ (some a), aU, aU] [] h := rfl
theorem u_Pl_firstFile_0 : ex cal k_Pl_firstFile 0 (ls) (st) h = ex cal k_Pl_firstFile 1 (ls) (aI 0 :: st) h := e_push cal rfl
theorem u_Pl_firstFile_1 (hx : aNl x2 = true) : ex cal k_Pl_firstFile 1 (x0 :: x1 :: x2 :: y :: ls) (aI v :: st) h = ex cal k_Pl_firstFile 2 (x0 :: x1 :: x2 :: aI v :: ls) (st) h := e_ist (ls := x0 :: x1 :: x2 :: y :: ls) (k := 3) rfl hx (by simp only [List.length_cons]; omega)
theorem u_Pl_firstFile_2 : ex cal k_Pl_firstFile 2 (x0 :: x1 :: x2 :: aI v :: ls) (st) h = ex cal k_Pl_firstFile 3 (x0 :: x1 :: x2 :: aI v :: ls) (aI v :: st) h := ex_st cal (s := s_ild 3 3) rfl rfl
theorem u_Pl_firstFile_3 : ex cal k_Pl_firstFile 3 (ls) (st) h = ex cal k_Pl_firstFile 5 (ls) (aI 6 :: st) h := e_push cal rfl
theorem u_Pl_firstFile_5 : ex cal k_Pl_firstFile 5 (ls) (aI j :: aI i :: st) h = if wr i < wr j then ex cal k_Pl_firstFile 8 (ls) (st) h else ex cal k_Pl_firstFile 38 (ls) (st) h := e_icge cal rfl
theorem u_Pl_firstFile_8 : ex cal k_Pl_firstFile 8 (aQ r :: ls) (st) h = ex cal k_Pl_firstFile 9 (aQ r :: ls) (aQ r :: st) h := ex_st cal (s := s_ald 0 9) rfl rfl
theorem u_Pl_firstFile_9 : ex cal k_Pl_firstFile 9 (x0 :: aI v :: ls) (st) h = ex cal k_Pl_firstFile 10 (x0 :: aI v :: ls) (aI v :: st) h := ex_st cal (s := s_ild 1 10) rfl rfl
theorem u_Pl_firstFile_10 : ex cal k_Pl_firstFile 10 (x0 :: x1 :: x2 :: aI v :: ls) (st) h = ex cal k_Pl_firstFile 11 (x0 :: x1 :: x2 :: aI v :: ls) (aI v :: st) h := ex_st cal (s := s_ild 3 11) rfl rfl
theorem u_Pl_firstFile_11 : ex cal k_Pl_firstFile 11 (x0 :: x1 :: aI v :: ls) (st) h = ex cal k_Pl_firstFile 12 (x0 :: x1 :: aI v :: ls) (aI v :: st) h := ex_st cal (s := s_ild 2 12) rfl rfl
theorem u_Pl_firstFile_12 (hl : Nat.ble st.length 4 = true) : ex cal k_Pl_firstFile 12 (ls) (aI z2 :: aI z1 :: aI z0 :: aQ (some a) :: st) h = gO h a 5 (kk cal k_Pl_firstFile 15 ls st (cal M_Pl_hoursWith [aQ (some a), aI z0, aI z1, aI z2] h)) := e_callV cal (ci := 5) (as := [aI z2, aI z1, aI z0]) rfl (by decide) rfl (Nat.le_of_ble_eq_true hl)
theorem u_Pl_firstFile_15 : ex cal k_Pl_firstFile 15 (aQ r :: ls) (st) h = ex cal k_Pl_firstFile 16 (aQ r :: ls) (aQ r :: st) h := ex_st cal (s := s_ald 0 16) rfl rfl
theorem u_Pl_firstFile_16 : ex cal k_Pl_firstFile 16 (ls) (aQ (some a) :: st) h = gO h a 5 (ex cal k_Pl_firstFile 19 (ls) (gf h a 5 :: st) h) := e_gf cal rfl
theorem u_Pl_firstFile_19 : ex cal k_Pl_firstFile 19 (x0 :: aI v :: ls) (st) h = ex cal k_Pl_firstFile 20 (x0 :: aI v :: ls) (aI v :: st) h := ex_st cal (s := s_ild 1 20) rfl rfl
theorem u_Pl_firstFile_20 : ex cal k_Pl_firstFile 20 (ls) (st) h = ex cal k_Pl_firstFile 23 (ls) (aI 256 :: st) h := e_push cal rfl
theorem u_Pl_firstFile_23 : ex cal k_Pl_firstFile 23 (ls) (aI j :: aI i :: st) h = ex cal k_Pl_firstFile 24 (ls) (aI (i * j) :: st) h := e_bin cal rfl
theorem u_Pl_firstFile_24 : ex cal k_Pl_firstFile 24 (x0 :: x1 :: aI v :: ls) (st) h = ex cal k_Pl_firstFile 25 (x0 :: x1 :: aI v :: ls) (aI v :: st) h := ex_st cal (s := s_ild 2 25) rfl rfl
theorem u_Pl_firstFile_25 : ex cal k_Pl_firstFile 25 (ls) (aI j :: aI i :: st) h = ex cal k_Pl_firstFile 26 (ls) (aI (i + j) :: st) h := e_bin cal rfl
theorem u_Pl_firstFile_26 : ex cal k_Pl_firstFile 26 (ls) (aI i :: aQ (some a) :: st) h = gA h a i (ex cal k_Pl_firstFile 27 (ls) (aI (ai h a (wr i)) :: st) h) := e_ia cal rfl
theorem u_Pl_firstFile_27 : ex cal k_Pl_firstFile 27 (ls) (aI j :: aI i :: st) h = if wr i = wr j then ex cal k_Pl_firstFile 30 (ls) (st) h else ex cal k_Pl_firstFile 32 (ls) (st) h := e_icne cal rfl
theorem u_Pl_firstFile_30 : ex cal k_Pl_firstFile 30 (x0 :: x1 :: x2 :: aI v :: ls) (st) h = ex cal k_Pl_firstFile 31 (x0 :: x1 :: x2 :: aI v :: ls) (aI v :: st) h := ex_st cal (s := s_ild 3 31) rfl rfl
theorem u_Pl_firstFile_31 : ex cal k_Pl_firstFile 31 (ls) ([aI v]) h = some (some (aI v), h) := e_ret1 cal rfl
theorem u_Pl_firstFile_32 (hx : aNl x2 = true) : ex cal k_Pl_firstFile 32 (x0 :: x1 :: x2 :: aI v :: ls) (st) h = ex cal k_Pl_firstFile 35 (x0 :: x1 :: x2 :: aI (v + 1) :: ls) (st) h := e_inc (ls := x0 :: x1 :: x2 :: aI v :: ls) (k := 3) rfl rfl hx
theorem u_Pl_firstFile_35 : ex cal k_Pl_firstFile 35 (ls) (st) h = ex cal k_Pl_firstFile 2 (ls) (st) h := ex_st cal (s := s_go 2) rfl rfl
theorem u_Pl_firstFile_38 : ex cal k_Pl_firstFile 38 (ls) (st) h = ex cal k_Pl_firstFile 39 (ls) (aI (-1) :: st) h := e_push cal rfl
theorem u_Pl_firstFile_39 : ex cal k_Pl_firstFile 39 (ls) ([aI v]) h = some (some (aI v), h) := e_ret1 cal rfl
theorem n_Pl_firstFile (d : Nat) : ev (d + 1) M_Pl_firstFile [aQ (some a), aI z0, aI z1] h = ex (ev d) k_Pl_firstFile 0 [aQ (some a), aI z0, aI z1, aU] [] h := rfl
theorem u_Sh_init_0 : ex cal k_Sh_init 0 (aQ r :: ls) (st) h = ex cal k_Sh_init 1 (aQ r :: ls) (aQ r :: st) h := ex_st cal (s := s_ald 0 1) rfl rfl
theorem u_Sh_init_1 (hl : Nat.ble st.length 4 = true) : ex cal k_Sh_init 1 (ls) (aQ (some a) :: st) h = ex cal k_Sh_init 4 (ls) (st) h := e_oi cal rfl (Nat.le_of_ble_eq_true hl)
theorem u_Sh_init_4 : ex cal k_Sh_init 4 (aQ r :: ls) (st) h = ex cal k_Sh_init 5 (aQ r :: ls) (aQ r :: st) h := ex_st cal (s := s_ald 0 5) rfl rfl
theorem u_Sh_init_5 : ex cal k_Sh_init 5 (ls) (st) h = ex cal k_Sh_init 6 (ls) (aI (-1) :: st) h := e_push cal rfl
theorem u_Sh_init_6 : ex cal k_Sh_init 6 (ls) (aI v :: aQ (some a) :: st) h = gO h a 6 (ex cal k_Sh_init 9 (ls) (st) (pf h a 0 (aI v))) := e_pf1 rfl rfl
theorem u_Sh_init_9 : ex cal k_Sh_init 9 (aQ r :: ls) (st) h = ex cal k_Sh_init 10 (aQ r :: ls) (aQ r :: st) h := ex_st cal (s := s_ald 0 10) rfl rfl
theorem u_Sh_init_10 : ex cal k_Sh_init 10 (ls) (st) h = ex cal k_Sh_init 12 (ls) (aI 40 :: st) h := e_push cal rfl
theorem u_Sh_init_12 (h1 : 0 ≤ i) (h2 : i ≤ 100000) : ex cal k_Sh_init 12 (ls) (aI i :: st) h = ex cal k_Sh_init 14 (ls) (aQ (some (aSz h)) :: st) (aNew h (.inr (.inl (i.toNat, fun _ => 0))) i.toNat) := e_nai cal rfl h1 h2
theorem u_Sh_init_14 : ex cal k_Sh_init 14 (ls) (aQ r :: aQ (some a) :: st) h = gO h a 6 (ex cal k_Sh_init 17 (ls) (st) (pf h a 2 (aQ r))) := e_pf1 rfl rfl
theorem u_Sh_init_17 : ex cal k_Sh_init 17 (ls) ([]) h = some (none, h) := e_ret0 cal rfl
theorem n_Sh_init (d : Nat) : ev (d + 1) M_Sh_init [aQ (some a)] h = ex (ev d) k_Sh_init 0 [aQ (some a)] [] h := rfl
theorem u_Sh_begin_0 : ex cal k_Sh_begin 0 (aQ r :: ls) (st) h = ex cal k_Sh_begin 1 (aQ r :: ls) (aQ r :: st) h := ex_st cal (s := s_ald 0 1) rfl rfl
theorem u_Sh_begin_1 : ex cal k_Sh_begin 1 (x0 :: aI v :: ls) (st) h = ex cal k_Sh_begin 2 (x0 :: aI v :: ls) (aI v :: st) h := ex_st cal (s := s_ild 1 2) rfl rfl
theorem u_Sh_begin_2 : ex cal k_Sh_begin 2 (ls) (aI v :: aQ (some a) :: st) h = gO h a 6 (ex cal k_Sh_begin 5 (ls) (st) (pf h a 0 (aI v))) := e_pf1 rfl rfl
theorem u_Sh_begin_5 : ex cal k_Sh_begin 5 (aQ r :: ls) (st) h = ex cal k_Sh_begin 6 (aQ r :: ls) (aQ r :: st) h := ex_st cal (s := s_ald 0 6) rfl rfl
theorem u_Sh_begin_6 : ex cal k_Sh_begin 6 (x0 :: x1 :: aI v :: ls) (st) h = ex cal k_Sh_begin 7 (x0 :: x1 :: aI v :: ls) (aI v :: st) h := ex_st cal (s := s_ild 2 7) rfl rfl
theorem u_Sh_begin_7 : ex cal k_Sh_begin 7 (ls) (aI v :: aQ (some a) :: st) h = gO h a 6 (ex cal k_Sh_begin 10 (ls) (st) (pf h a 1 (aI v))) := e_pf1 rfl rfl
theorem u_Sh_begin_10 : ex cal k_Sh_begin 10 (aQ r :: ls) (st) h = ex cal k_Sh_begin 11 (aQ r :: ls) (aQ r :: st) h := ex_st cal (s := s_ald 0 11) rfl rfl
theorem u_Sh_begin_11 : ex cal k_Sh_begin 11 (ls) (aQ (some a) :: st) h = gO h a 6 (ex cal k_Sh_begin 14 (ls) (gf h a 2 :: st) h) := e_gf cal rfl
theorem u_Sh_begin_14 : ex cal k_Sh_begin 14 (ls) (st) h = ex cal k_Sh_begin 15 (ls) (aI 0 :: st) h := e_push cal rfl
theorem u_Sh_begin_15 (hl : Nat.ble st.length 4 = true) : ex cal k_Sh_begin 15 (ls) (aI z1 :: aQ r0 :: st) h = kk cal k_Sh_begin 18 ls st (cal M_J_fill [aQ r0, aI z1] h) := e_call cal (as := [aI z1, aQ r0]) rfl rfl (Nat.le_of_ble_eq_true hl)
theorem u_Sh_begin_18 : ex cal k_Sh_begin 18 (ls) ([]) h = some (none, h) := e_ret0 cal rfl
theorem n_Sh_begin (d : Nat) : ev (d + 1) M_Sh_begin [aQ (some a), aI z0, aI z1] h = ex (ev d) k_Sh_begin 0 [aQ (some a), aI z0, aI z1] [] h := rfl
theorem u_Sh_holdsTexts_0 : ex cal k_Sh_holdsTexts 0 (ls) (st) h = ex cal k_Sh_holdsTexts 1 (ls) (aI 0 :: st) h := e_push cal rfl
theorem u_Sh_holdsTexts_1 (hx : aNl x0 = true) : ex cal k_Sh_holdsTexts 1 (x0 :: y :: ls) (aI v :: st) h = ex cal k_Sh_holdsTexts 2 (x0 :: aI v :: ls) (st) h := e_ist (ls := x0 :: y :: ls) (k := 1) rfl hx (by simp only [List.length_cons]; omega)
theorem u_Sh_holdsTexts_2 : ex cal k_Sh_holdsTexts 2 (x0 :: aI v :: ls) (st) h = ex cal k_Sh_holdsTexts 3 (x0 :: aI v :: ls) (aI v :: st) h := ex_st cal (s := s_ild 1 3) rfl rfl
theorem u_Sh_holdsTexts_3 : ex cal k_Sh_holdsTexts 3 (aQ r :: ls) (st) h = ex cal k_Sh_holdsTexts 4 (aQ r :: ls) (aQ r :: st) h := ex_st cal (s := s_ald 0 4) rfl rfl
theorem u_Sh_holdsTexts_4 : ex cal k_Sh_holdsTexts 4 (ls) (aQ (some a) :: st) h = gO h a 6 (ex cal k_Sh_holdsTexts 7 (ls) (gf h a 1 :: st) h) := e_gf cal rfl
theorem u_Sh_holdsTexts_7 : ex cal k_Sh_holdsTexts 7 (ls) (aI j :: aI i :: st) h = if wr i < wr j then ex cal k_Sh_holdsTexts 10 (ls) (st) h else ex cal k_Sh_holdsTexts 30 (ls) (st) h := e_icge cal rfl
theorem u_Sh_holdsTexts_10 : ex cal k_Sh_holdsTexts 10 (aQ r :: ls) (st) h = ex cal k_Sh_holdsTexts 11 (aQ r :: ls) (aQ r :: st) h := ex_st cal (s := s_ald 0 11) rfl rfl
theorem u_Sh_holdsTexts_11 : ex cal k_Sh_holdsTexts 11 (ls) (aQ (some a) :: st) h = gO h a 6 (ex cal k_Sh_holdsTexts 14 (ls) (gf h a 2 :: st) h) := e_gf cal rfl
theorem u_Sh_holdsTexts_14 : ex cal k_Sh_holdsTexts 14 (x0 :: aI v :: ls) (st) h = ex cal k_Sh_holdsTexts 15 (x0 :: aI v :: ls) (aI v :: st) h := ex_st cal (s := s_ild 1 15) rfl rfl
theorem u_Sh_holdsTexts_15 : ex cal k_Sh_holdsTexts 15 (ls) (aI i :: aQ (some a) :: st) h = gA h a i (ex cal k_Sh_holdsTexts 16 (ls) (aI (ai h a (wr i)) :: st) h) := e_ia cal rfl
theorem u_Sh_holdsTexts_16 (hl : Nat.ble st.length 4 = true) : ex cal k_Sh_holdsTexts 16 (ls) (aI z0 :: st) h = kk cal k_Sh_holdsTexts 19 ls st (cal M_C_isText [aI z0] h) := e_call cal (as := [aI z0]) rfl rfl (Nat.le_of_ble_eq_true hl)
theorem u_Sh_holdsTexts_19 : ex cal k_Sh_holdsTexts 19 (ls) (aI i :: st) h = if wr i = 0 then ex cal k_Sh_holdsTexts 22 (ls) (st) h else ex cal k_Sh_holdsTexts 24 (ls) (st) h := e_ifne cal rfl
theorem u_Sh_holdsTexts_22 : ex cal k_Sh_holdsTexts 22 (ls) (st) h = ex cal k_Sh_holdsTexts 23 (ls) (aI 0 :: st) h := e_push cal rfl
theorem u_Sh_holdsTexts_23 (hv : v = 0 ∨ v = 1) : ex cal k_Sh_holdsTexts 23 (ls) ([aI v]) h = some (some (aI v), h) := e_ret22 rfl hv
theorem u_Sh_holdsTexts_24 (hx : aNl x0 = true) : ex cal k_Sh_holdsTexts 24 (x0 :: aI v :: ls) (st) h = ex cal k_Sh_holdsTexts 27 (x0 :: aI (v + 1) :: ls) (st) h := e_inc (ls := x0 :: aI v :: ls) (k := 1) rfl rfl hx
theorem u_Sh_holdsTexts_27 : ex cal k_Sh_holdsTexts 27 (ls) (st) h = ex cal k_Sh_holdsTexts 2 (ls) (st) h := ex_st cal (s := s_go 2) rfl rfl
theorem u_Sh_holdsTexts_30 : ex cal k_Sh_holdsTexts 30 (ls) (st) h = ex cal k_Sh_holdsTexts 31 (ls) (aI 1 :: st) h := e_push cal rfl
theorem u_Sh_holdsTexts_31 (hv : v = 0 ∨ v = 1) : ex cal k_Sh_holdsTexts 31 (ls) ([aI v]) h = some (some (aI v), h) := e_ret22 rfl hv
theorem n_Sh_holdsTexts (d : Nat) : ev (d + 1) M_Sh_holdsTexts [aQ (some a)] h = ex (ev d) k_Sh_holdsTexts 0 [aQ (some a), aU] [] h := rfl
theorem u_St_init_0 : ex cal k_St_init 0 (aQ r :: ls) (st) h = ex cal k_St_init 1 (aQ r :: ls) (aQ r :: st) h := ex_st cal (s := s_ald 0 1) rfl rfl
theorem u_St_init_1 (hl : Nat.ble st.length 4 = true) : ex cal k_St_init 1 (ls) (aQ (some a) :: st) h = ex cal k_St_init 4 (ls) (st) h := e_oi cal rfl (Nat.le_of_ble_eq_true hl)
theorem u_St_init_4 : ex cal k_St_init 4 (aQ r :: ls) (st) h = ex cal k_St_init 5 (aQ r :: ls) (aQ r :: st) h := ex_st cal (s := s_ald 0 5) rfl rfl
theorem u_St_init_5 : ex cal k_St_init 5 (ls) (st) h = ex cal k_St_init 7 (ls) (aI 8 :: st) h := e_push cal rfl
theorem u_St_init_7 (h1 : 0 ≤ i) (h2 : i ≤ 100000) : ex cal k_St_init 7 (ls) (aI i :: st) h = ex cal k_St_init 9 (ls) (aQ (some (aSz h)) :: st) (aNew h (.inr (.inl (i.toNat, fun _ => 0))) i.toNat) := e_nai cal rfl h1 h2
theorem u_St_init_9 : ex cal k_St_init 9 (ls) (aQ r :: aQ (some a) :: st) h = gO h a 7 (ex cal k_St_init 12 (ls) (st) (pf h a 1 (aQ r))) := e_pf1 rfl rfl
theorem u_St_init_12 : ex cal k_St_init 12 (aQ r :: ls) (st) h = ex cal k_St_init 13 (aQ r :: ls) (aQ r :: st) h := ex_st cal (s := s_ald 0 13) rfl rfl
theorem u_St_init_13 : ex cal k_St_init 13 (ls) (st) h = ex cal k_St_init 15 (ls) (aI 50 :: st) h := e_push cal rfl
theorem u_St_init_15 : ex cal k_St_init 15 (ls) (aI v :: aQ (some a) :: st) h = gO h a 7 (ex cal k_St_init 18 (ls) (st) (pf h a 4 (aI v))) := e_pf1 rfl rfl
theorem u_St_init_18 : ex cal k_St_init 18 (aQ r :: ls) (st) h = ex cal k_St_init 19 (aQ r :: ls) (aQ r :: st) h := ex_st cal (s := s_ald 0 19) rfl rfl
theorem u_St_init_19 : ex cal k_St_init 19 (ls) (st) h = ex cal k_St_init 21 (ls) (aI 20 :: st) h := e_push cal rfl
theorem u_St_init_21 (h1 : 0 ≤ i) (h2 : i ≤ 100000) : ex cal k_St_init 21 (ls) (aI i :: st) h = ex cal k_St_init 23 (ls) (aQ (some (aSz h)) :: st) (aNew h (.inr (.inl (i.toNat, fun _ => 0))) i.toNat) := e_nai cal rfl h1 h2
theorem u_St_init_23 : ex cal k_St_init 23 (ls) (aQ r :: aQ (some a) :: st) h = gO h a 7 (ex cal k_St_init 26 (ls) (st) (pf h a 6 (aQ r))) := e_pf1 rfl rfl
theorem u_St_init_26 : ex cal k_St_init 26 (aQ r :: ls) (st) h = ex cal k_St_init 27 (aQ r :: ls) (aQ r :: st) h := ex_st cal (s := s_ald 0 27) rfl rfl
theorem u_St_init_27 : ex cal k_St_init 27 (ls) (st) h = ex cal k_St_init 29 (ls) (aI 6 :: st) h := e_push cal rfl
theorem u_St_init_29 (h1 : 0 ≤ i) (h2 : i ≤ 100000) : ex cal k_St_init 29 (ls) (aI i :: st) h = ex cal k_St_init 32 (ls) (aQ (some (aSz h)) :: st) (aNew h (.inr (.inr (0, i.toNat, fun _ => none))) i.toNat) := e_nar cal rfl h1 h2
theorem u_St_init_32 : ex cal k_St_init 32 (ls) (aQ r :: aQ (some a) :: st) h = gO h a 7 (ex cal k_St_init 35 (ls) (st) (pf h a 7 (aQ r))) := e_pf1 rfl rfl
theorem u_St_init_35 : ex cal k_St_init 35 (aQ r :: ls) (st) h = ex cal k_St_init 36 (aQ r :: ls) (aQ r :: st) h := ex_st cal (s := s_ald 0 36) rfl rfl
theorem u_St_init_36 : ex cal k_St_init 36 (ls) (st) h = ex cal k_St_init 38 (ls) (aI 60 :: st) h := e_push cal rfl
theorem u_St_init_38 (h1 : 0 ≤ i) (h2 : i ≤ 100000) : ex cal k_St_init 38 (ls) (aI i :: st) h = ex cal k_St_init 41 (ls) (aQ (some (aSz h)) :: st) (aNew h (.inr (.inr (1, i.toNat, fun _ => none))) i.toNat) := e_nar cal rfl h1 h2
theorem u_St_init_41 : ex cal k_St_init 41 (ls) (aQ r :: aQ (some a) :: st) h = gO h a 7 (ex cal k_St_init 44 (ls) (st) (pf h a 9 (aQ r))) := e_pf1 rfl rfl
theorem u_St_init_44 : ex cal k_St_init 44 (ls) (st) h = ex cal k_St_init 47 (ls) (aQ (some (aSz h)) :: st) (aNew h (.inl (4, aDf 4)) (aNf 4)) := e_new cal rfl
theorem u_St_init_47 (hx : aNl y = true) : ex cal k_St_init 47 (ls) (y :: st) h = ex cal k_St_init 48 (ls) (y :: y :: st) h := e_dup rfl hx
theorem u_St_init_48 : ex cal k_St_init 48 (ls) (st) h = ex cal k_St_init 49 (ls) (aI 0 :: st) h := e_push cal rfl
theorem u_St_init_49 (h1 : 0 ≤ i) (h2 : i ≤ 100000) : ex cal k_St_init 49 (ls) (aI i :: st) h = ex cal k_St_init 52 (ls) (aQ (some (aSz h)) :: st) (aNew h (.inr (.inr (2, i.toNat, fun _ => none))) i.toNat) := e_nar cal rfl h1 h2
theorem u_St_init_52 (hl : Nat.ble st.length 4 = true) : ex cal k_St_init 52 (ls) (aQ r0 :: aQ (some a) :: st) h = kk cal k_St_init 55 ls st (cal M_Pg_init [aQ (some a), aQ r0] h) := e_callI cal (as := [aQ r0]) rfl rfl (Nat.le_of_ble_eq_true hl)
theorem u_St_init_55 (hx : aNl x0 = true) : ex cal k_St_init 55 (x0 :: y :: ls) (aQ r :: st) h = ex cal k_St_init 56 (x0 :: aQ r :: ls) (st) h := e_ast (ls := x0 :: y :: ls) (k := 1) rfl hx (by simp only [List.length_cons]; omega)
theorem u_St_init_56 : ex cal k_St_init 56 (ls) (st) h = ex cal k_St_init 57 (ls) (aI 0 :: st) h := e_push cal rfl
theorem u_St_init_57 (hx : aNl x1 = true) : ex cal k_St_init 57 (x0 :: x1 :: y :: ls) (aI v :: st) h = ex cal k_St_init 58 (x0 :: x1 :: aI v :: ls) (st) h := e_ist (ls := x0 :: x1 :: y :: ls) (k := 2) rfl hx (by simp only [List.length_cons]; omega)
theorem u_St_init_58 : ex cal k_St_init 58 (x0 :: x1 :: aI v :: ls) (st) h = ex cal k_St_init 59 (x0 :: x1 :: aI v :: ls) (aI v :: st) h := ex_st cal (s := s_ild 2 59) rfl rfl
theorem u_St_init_59 : ex cal k_St_init 59 (ls) (st) h = ex cal k_St_init 61 (ls) (aI 6 :: st) h := e_push cal rfl
theorem u_St_init_61 : ex cal k_St_init 61 (ls) (aI j :: aI i :: st) h = if wr i < wr j then ex cal k_St_init 64 (ls) (st) h else ex cal k_St_init 77 (ls) (st) h := e_icge cal rfl
theorem u_St_init_64 : ex cal k_St_init 64 (aQ r :: ls) (st) h = ex cal k_St_init 65 (aQ r :: ls) (aQ r :: st) h := ex_st cal (s := s_ald 0 65) rfl rfl
theorem u_St_init_65 : ex cal k_St_init 65 (ls) (aQ (some a) :: st) h = gO h a 7 (ex cal k_St_init 68 (ls) (gf h a 7 :: st) h) := e_gf cal rfl
theorem u_St_init_68 : ex cal k_St_init 68 (x0 :: x1 :: aI v :: ls) (st) h = ex cal k_St_init 69 (x0 :: x1 :: aI v :: ls) (aI v :: st) h := ex_st cal (s := s_ild 2 69) rfl rfl
theorem u_St_init_69 : ex cal k_St_init 69 (x0 :: aQ r :: ls) (st) h = ex cal k_St_init 70 (x0 :: aQ r :: ls) (aQ r :: st) h := ex_st cal (s := s_ald 1 70) rfl rfl
theorem u_St_init_70 : ex cal k_St_init 70 (ls) (aQ r :: aI i :: aQ (some a) :: st) h = gR h a 0 i (gB (okQ h 0 r) (ex cal k_St_init 71 (ls) (st) (sr h a (upf (ra h a) (wr i) r)))) := e_ras cal rfl
theorem u_St_init_71 (hx : aNl x1 = true) : ex cal k_St_init 71 (x0 :: x1 :: aI v :: ls) (st) h = ex cal k_St_init 74 (x0 :: x1 :: aI (v + 1) :: ls) (st) h := e_inc (ls := x0 :: x1 :: aI v :: ls) (k := 2) rfl rfl hx
theorem u_St_init_74 : ex cal k_St_init 74 (ls) (st) h = ex cal k_St_init 58 (ls) (st) h := ex_st cal (s := s_go 58) rfl rfl
theorem u_St_init_77 : ex cal k_St_init 77 (ls) ([]) h = some (none, h) := e_ret0 cal rfl
theorem n_St_init (d : Nat) : ev (d + 1) M_St_init [aQ (some a)] h = ex (ev d) k_St_init 0 [aQ (some a), aU, aU] [] h := rfl
theorem u_St_become_0 : ex cal k_St_become 0 (aQ r :: ls) (st) h = ex cal k_St_become 1 (aQ r :: ls) (aQ r :: st) h := ex_st cal (s := s_ald 0 1) rfl rfl
theorem u_St_become_1 : ex cal k_St_become 1 (x0 :: aQ r :: ls) (st) h = ex cal k_St_become 2 (x0 :: aQ r :: ls) (aQ r :: st) h := ex_st cal (s := s_ald 1 2) rfl rfl
theorem u_St_become_2 : ex cal k_St_become 2 (ls) (aQ (some a) :: st) h = gO h a 7 (ex cal k_St_become 5 (ls) (gf h a 0 :: st) h) := e_gf cal rfl
theorem u_St_become_5 : ex cal k_St_become 5 (ls) (aI v :: aQ (some a) :: st) h = gO h a 7 (ex cal k_St_become 8 (ls) (st) (pf h a 0 (aI v))) := e_pf1 rfl rfl
theorem u_St_become_8 : ex cal k_St_become 8 (aQ r :: ls) (st) h = ex cal k_St_become 9 (aQ r :: ls) (aQ r :: st) h := ex_st cal (s := s_ald 0 9) rfl rfl
theorem u_St_become_9 : ex cal k_St_become 9 (x0 :: aQ r :: ls) (st) h = ex cal k_St_become 10 (x0 :: aQ r :: ls) (aQ r :: st) h := ex_st cal (s := s_ald 1 10) rfl rfl
theorem u_St_become_10 : ex cal k_St_become 10 (ls) (aQ (some a) :: st) h = gO h a 7 (ex cal k_St_become 13 (ls) (gf h a 2 :: st) h) := e_gf cal rfl
theorem u_St_become_13 : ex cal k_St_become 13 (ls) (aI v :: aQ (some a) :: st) h = gO h a 7 (ex cal k_St_become 16 (ls) (st) (pf h a 2 (aI v))) := e_pf1 rfl rfl
theorem u_St_become_16 : ex cal k_St_become 16 (aQ r :: ls) (st) h = ex cal k_St_become 17 (aQ r :: ls) (aQ r :: st) h := ex_st cal (s := s_ald 0 17) rfl rfl
theorem u_St_become_17 : ex cal k_St_become 17 (x0 :: aQ r :: ls) (st) h = ex cal k_St_become 18 (x0 :: aQ r :: ls) (aQ r :: st) h := ex_st cal (s := s_ald 1 18) rfl rfl
theorem u_St_become_18 : ex cal k_St_become 18 (ls) (aQ (some a) :: st) h = gO h a 7 (ex cal k_St_become 21 (ls) (gf h a 3 :: st) h) := e_gf cal rfl
theorem u_St_become_21 : ex cal k_St_become 21 (ls) (aI v :: aQ (some a) :: st) h = gO h a 7 (ex cal k_St_become 24 (ls) (st) (pf h a 3 (aI v))) := e_pf1 rfl rfl
theorem u_St_become_24 : ex cal k_St_become 24 (aQ r :: ls) (st) h = ex cal k_St_become 25 (aQ r :: ls) (aQ r :: st) h := ex_st cal (s := s_ald 0 25) rfl rfl
theorem u_St_become_25 : ex cal k_St_become 25 (x0 :: aQ r :: ls) (st) h = ex cal k_St_become 26 (x0 :: aQ r :: ls) (aQ r :: st) h := ex_st cal (s := s_ald 1 26) rfl rfl
theorem u_St_become_26 : ex cal k_St_become 26 (ls) (aQ (some a) :: st) h = gO h a 7 (ex cal k_St_become 29 (ls) (gf h a 4 :: st) h) := e_gf cal rfl
theorem u_St_become_29 : ex cal k_St_become 29 (ls) (aI v :: aQ (some a) :: st) h = gO h a 7 (ex cal k_St_become 32 (ls) (st) (pf h a 4 (aI v))) := e_pf1 rfl rfl
theorem u_St_become_32 : ex cal k_St_become 32 (aQ r :: ls) (st) h = ex cal k_St_become 33 (aQ r :: ls) (aQ r :: st) h := ex_st cal (s := s_ald 0 33) rfl rfl
theorem u_St_become_33 : ex cal k_St_become 33 (x0 :: aQ r :: ls) (st) h = ex cal k_St_become 34 (x0 :: aQ r :: ls) (aQ r :: st) h := ex_st cal (s := s_ald 1 34) rfl rfl
theorem u_St_become_34 : ex cal k_St_become 34 (ls) (aQ (some a) :: st) h = gO h a 7 (ex cal k_St_become 37 (ls) (gf h a 5 :: st) h) := e_gf cal rfl
theorem u_St_become_37 : ex cal k_St_become 37 (ls) (aI v :: aQ (some a) :: st) h = gO h a 7 (ex cal k_St_become 40 (ls) (st) (pf h a 5 (aI v))) := e_pf1 rfl rfl
theorem u_St_become_40 : ex cal k_St_become 40 (aQ r :: ls) (st) h = ex cal k_St_become 41 (aQ r :: ls) (aQ r :: st) h := ex_st cal (s := s_ald 0 41) rfl rfl
theorem u_St_become_41 : ex cal k_St_become 41 (x0 :: aQ r :: ls) (st) h = ex cal k_St_become 42 (x0 :: aQ r :: ls) (aQ r :: st) h := ex_st cal (s := s_ald 1 42) rfl rfl
theorem u_St_become_42 : ex cal k_St_become 42 (ls) (aQ (some a) :: st) h = gO h a 7 (ex cal k_St_become 45 (ls) (gf h a 8 :: st) h) := e_gf cal rfl
theorem u_St_become_45 : ex cal k_St_become 45 (ls) (aI v :: aQ (some a) :: st) h = gO h a 7 (ex cal k_St_become 48 (ls) (st) (pf h a 8 (aI v))) := e_pf1 rfl rfl
theorem u_St_become_48 : ex cal k_St_become 48 (x0 :: aQ r :: ls) (st) h = ex cal k_St_become 49 (x0 :: aQ r :: ls) (aQ r :: st) h := ex_st cal (s := s_ald 1 49) rfl rfl
theorem u_St_become_49 : ex cal k_St_become 49 (ls) (aQ (some a) :: st) h = gO h a 7 (ex cal k_St_become 52 (ls) (gf h a 1 :: st) h) := e_gf cal rfl
theorem u_St_become_52 : ex cal k_St_become 52 (ls) (st) h = ex cal k_St_become 53 (ls) (aI 0 :: st) h := e_push cal rfl
theorem u_St_become_53 : ex cal k_St_become 53 (aQ r :: ls) (st) h = ex cal k_St_become 54 (aQ r :: ls) (aQ r :: st) h := ex_st cal (s := s_ald 0 54) rfl rfl
theorem u_St_become_54 : ex cal k_St_become 54 (ls) (aQ (some a) :: st) h = gO h a 7 (ex cal k_St_become 57 (ls) (gf h a 1 :: st) h) := e_gf cal rfl
theorem u_St_become_57 : ex cal k_St_become 57 (ls) (st) h = ex cal k_St_become 58 (ls) (aI 0 :: st) h := e_push cal rfl
theorem u_St_become_58 : ex cal k_St_become 58 (ls) (st) h = ex cal k_St_become 60 (ls) (aI 8 :: st) h := e_push cal rfl
theorem u_St_become_60 (hl : Nat.ble st.length 4 = true) : ex cal k_St_become 60 (ls) (aI c :: aI j :: aQ (some b) :: aI i :: aQ (some a) :: st) h = gB (okC h a b i j c) (ex cal k_St_become 63 (ls) (st) (sa h b (cpf (ai h a) (ai h b) (wr i) (wr j) (wr c)))) := e_cpy cal rfl (Nat.le_of_ble_eq_true hl)
theorem u_St_become_63 : ex cal k_St_become 63 (x0 :: aQ r :: ls) (st) h = ex cal k_St_become 64 (x0 :: aQ r :: ls) (aQ r :: st) h := ex_st cal (s := s_ald 1 64) rfl rfl
theorem u_St_become_64 : ex cal k_St_become 64 (ls) (aQ (some a) :: st) h = gO h a 7 (ex cal k_St_become 67 (ls) (gf h a 6 :: st) h) := e_gf cal rfl
theorem u_St_become_67 : ex cal k_St_become 67 (ls) (st) h = ex cal k_St_become 68 (ls) (aI 0 :: st) h := e_push cal rfl
theorem u_St_become_68 : ex cal k_St_become 68 (aQ r :: ls) (st) h = ex cal k_St_become 69 (aQ r :: ls) (aQ r :: st) h := ex_st cal (s := s_ald 0 69) rfl rfl
theorem u_St_become_69 : ex cal k_St_become 69 (ls) (aQ (some a) :: st) h = gO h a 7 (ex cal k_St_become 72 (ls) (gf h a 6 :: st) h) := e_gf cal rfl
theorem u_St_become_72 : ex cal k_St_become 72 (ls) (st) h = ex cal k_St_become 73 (ls) (aI 0 :: st) h := e_push cal rfl
theorem u_St_become_73 : ex cal k_St_become 73 (ls) (st) h = ex cal k_St_become 75 (ls) (aI 20 :: st) h := e_push cal rfl
theorem u_St_become_75 (hl : Nat.ble st.length 4 = true) : ex cal k_St_become 75 (ls) (aI c :: aI j :: aQ (some b) :: aI i :: aQ (some a) :: st) h = gB (okC h a b i j c) (ex cal k_St_become 78 (ls) (st) (sa h b (cpf (ai h a) (ai h b) (wr i) (wr j) (wr c)))) := e_cpy cal rfl (Nat.le_of_ble_eq_true hl)
theorem u_St_become_78 : ex cal k_St_become 78 (ls) (st) h = ex cal k_St_become 79 (ls) (aI 0 :: st) h := e_push cal rfl
theorem u_St_become_79 (hx : aNl x1 = true) : ex cal k_St_become 79 (x0 :: x1 :: y :: ls) (aI v :: st) h = ex cal k_St_become 80 (x0 :: x1 :: aI v :: ls) (st) h := e_ist (ls := x0 :: x1 :: y :: ls) (k := 2) rfl hx (by simp only [List.length_cons]; omega)
theorem u_St_become_80 : ex cal k_St_become 80 (x0 :: x1 :: aI v :: ls) (st) h = ex cal k_St_become 81 (x0 :: x1 :: aI v :: ls) (aI v :: st) h := ex_st cal (s := s_ild 2 81) rfl rfl
theorem u_St_become_81 : ex cal k_St_become 81 (ls) (st) h = ex cal k_St_become 83 (ls) (aI 6 :: st) h := e_push cal rfl
theorem u_St_become_83 : ex cal k_St_become 83 (ls) (aI j :: aI i :: st) h = if wr i < wr j then ex cal k_St_become 86 (ls) (st) h else ex cal k_St_become 104 (ls) (st) h := e_icge cal rfl
theorem u_St_become_86 : ex cal k_St_become 86 (aQ r :: ls) (st) h = ex cal k_St_become 87 (aQ r :: ls) (aQ r :: st) h := ex_st cal (s := s_ald 0 87) rfl rfl
theorem u_St_become_87 : ex cal k_St_become 87 (ls) (aQ (some a) :: st) h = gO h a 7 (ex cal k_St_become 90 (ls) (gf h a 7 :: st) h) := e_gf cal rfl
theorem u_St_become_90 : ex cal k_St_become 90 (x0 :: x1 :: aI v :: ls) (st) h = ex cal k_St_become 91 (x0 :: x1 :: aI v :: ls) (aI v :: st) h := ex_st cal (s := s_ild 2 91) rfl rfl
theorem u_St_become_91 : ex cal k_St_become 91 (x0 :: aQ r :: ls) (st) h = ex cal k_St_become 92 (x0 :: aQ r :: ls) (aQ r :: st) h := ex_st cal (s := s_ald 1 92) rfl rfl
theorem u_St_become_92 : ex cal k_St_become 92 (ls) (aQ (some a) :: st) h = gO h a 7 (ex cal k_St_become 95 (ls) (gf h a 7 :: st) h) := e_gf cal rfl
theorem u_St_become_95 : ex cal k_St_become 95 (x0 :: x1 :: aI v :: ls) (st) h = ex cal k_St_become 96 (x0 :: x1 :: aI v :: ls) (aI v :: st) h := ex_st cal (s := s_ild 2 96) rfl rfl
theorem u_St_become_96 : ex cal k_St_become 96 (ls) (aI i :: aQ (some a) :: st) h = gR h a 0 i (ex cal k_St_become 97 (ls) (aQ (ra h a (wr i)) :: st) h) := e_ra cal rfl
theorem u_St_become_97 : ex cal k_St_become 97 (ls) (aQ r :: aI i :: aQ (some a) :: st) h = gR h a 0 i (gB (okQ h 0 r) (ex cal k_St_become 98 (ls) (st) (sr h a (upf (ra h a) (wr i) r)))) := e_ras cal rfl
theorem u_St_become_98 (hx : aNl x1 = true) : ex cal k_St_become 98 (x0 :: x1 :: aI v :: ls) (st) h = ex cal k_St_become 101 (x0 :: x1 :: aI (v + 1) :: ls) (st) h := e_inc (ls := x0 :: x1 :: aI v :: ls) (k := 2) rfl rfl hx
theorem u_St_become_101 : ex cal k_St_become 101 (ls) (st) h = ex cal k_St_become 80 (ls) (st) h := ex_st cal (s := s_go 80) rfl rfl
theorem u_St_become_104 : ex cal k_St_become 104 (ls) (st) h = ex cal k_St_become 105 (ls) (aI 0 :: st) h := e_push cal rfl
theorem u_St_become_105 (hx : aNl x1 = true) : ex cal k_St_become 105 (x0 :: x1 :: y :: ls) (aI v :: st) h = ex cal k_St_become 106 (x0 :: x1 :: aI v :: ls) (st) h := e_ist (ls := x0 :: x1 :: y :: ls) (k := 2) rfl hx (by simp only [List.length_cons]; omega)
theorem u_St_become_106 : ex cal k_St_become 106 (x0 :: x1 :: aI v :: ls) (st) h = ex cal k_St_become 107 (x0 :: x1 :: aI v :: ls) (aI v :: st) h := ex_st cal (s := s_ild 2 107) rfl rfl
theorem u_St_become_107 : ex cal k_St_become 107 (ls) (st) h = ex cal k_St_become 109 (ls) (aI 60 :: st) h := e_push cal rfl
theorem u_St_become_109 : ex cal k_St_become 109 (ls) (aI j :: aI i :: st) h = if wr i < wr j then ex cal k_St_become 112 (ls) (st) h else ex cal k_St_become 130 (ls) (st) h := e_icge cal rfl
theorem u_St_become_112 : ex cal k_St_become 112 (aQ r :: ls) (st) h = ex cal k_St_become 113 (aQ r :: ls) (aQ r :: st) h := ex_st cal (s := s_ald 0 113) rfl rfl
theorem u_St_become_113 : ex cal k_St_become 113 (ls) (aQ (some a) :: st) h = gO h a 7 (ex cal k_St_become 116 (ls) (gf h a 9 :: st) h) := e_gf cal rfl
theorem u_St_become_116 : ex cal k_St_become 116 (x0 :: x1 :: aI v :: ls) (st) h = ex cal k_St_become 117 (x0 :: x1 :: aI v :: ls) (aI v :: st) h := ex_st cal (s := s_ild 2 117) rfl rfl
theorem u_St_become_117 : ex cal k_St_become 117 (x0 :: aQ r :: ls) (st) h = ex cal k_St_become 118 (x0 :: aQ r :: ls) (aQ r :: st) h := ex_st cal (s := s_ald 1 118) rfl rfl
theorem u_St_become_118 : ex cal k_St_become 118 (ls) (aQ (some a) :: st) h = gO h a 7 (ex cal k_St_become 121 (ls) (gf h a 9 :: st) h) := e_gf cal rfl
theorem u_St_become_121 : ex cal k_St_become 121 (x0 :: x1 :: aI v :: ls) (st) h = ex cal k_St_become 122 (x0 :: x1 :: aI v :: ls) (aI v :: st) h := ex_st cal (s := s_ild 2 122) rfl rfl
theorem u_St_become_122 : ex cal k_St_become 122 (ls) (aI i :: aQ (some a) :: st) h = gR h a 1 i (ex cal k_St_become 123 (ls) (aQ (ra h a (wr i)) :: st) h) := e_ra cal rfl
theorem u_St_become_123 : ex cal k_St_become 123 (ls) (aQ r :: aI i :: aQ (some a) :: st) h = gR h a 1 i (gB (okQ h 1 r) (ex cal k_St_become 124 (ls) (st) (sr h a (upf (ra h a) (wr i) r)))) := e_ras cal rfl
theorem u_St_become_124 (hx : aNl x1 = true) : ex cal k_St_become 124 (x0 :: x1 :: aI v :: ls) (st) h = ex cal k_St_become 127 (x0 :: x1 :: aI (v + 1) :: ls) (st) h := e_inc (ls := x0 :: x1 :: aI v :: ls) (k := 2) rfl rfl hx
theorem u_St_become_127 : ex cal k_St_become 127 (ls) (st) h = ex cal k_St_become 106 (ls) (st) h := ex_st cal (s := s_go 106) rfl rfl
theorem u_St_become_130 : ex cal k_St_become 130 (ls) ([]) h = some (none, h) := e_ret0 cal rfl
theorem n_St_become (d : Nat) : ev (d + 1) M_St_become [aQ (some a), aQ r0] h = ex (ev d) k_St_become 0 [aQ (some a), aQ r0, aU] [] h := rfl
theorem u_St_addPerson_0 : ex cal k_St_addPerson 0 (aQ r :: ls) (st) h = ex cal k_St_addPerson 1 (aQ r :: ls) (aQ r :: st) h := ex_st cal (s := s_ald 0 1) rfl rfl
theorem u_St_addPerson_1 : ex cal k_St_addPerson 1 (ls) (aQ (some a) :: st) h = gO h a 7 (ex cal k_St_addPerson 4 (ls) (gf h a 0 :: st) h) := e_gf cal rfl
theorem u_St_addPerson_4 (hx : aNl x1 = true) : ex cal k_St_addPerson 4 (x0 :: x1 :: y :: ls) (aI v :: st) h = ex cal k_St_addPerson 5 (x0 :: x1 :: aI v :: ls) (st) h := e_ist (ls := x0 :: x1 :: y :: ls) (k := 2) rfl hx (by simp only [List.length_cons]; omega)
theorem u_St_addPerson_5 : ex cal k_St_addPerson 5 (aQ r :: ls) (st) h = ex cal k_St_addPerson 6 (aQ r :: ls) (aQ r :: st) h := ex_st cal (s := s_ald 0 6) rfl rfl
theorem u_St_addPerson_6 : ex cal k_St_addPerson 6 (ls) (aQ (some a) :: st) h = gO h a 7 (ex cal k_St_addPerson 9 (ls) (gf h a 1 :: st) h) := e_gf cal rfl
theorem u_St_addPerson_9 : ex cal k_St_addPerson 9 (x0 :: x1 :: aI v :: ls) (st) h = ex cal k_St_addPerson 10 (x0 :: x1 :: aI v :: ls) (aI v :: st) h := ex_st cal (s := s_ild 2 10) rfl rfl
theorem u_St_addPerson_10 : ex cal k_St_addPerson 10 (x0 :: aI v :: ls) (st) h = ex cal k_St_addPerson 11 (x0 :: aI v :: ls) (aI v :: st) h := ex_st cal (s := s_ild 1 11) rfl rfl
theorem u_St_addPerson_11 (h3 : 3 ≤ a) : ex cal k_St_addPerson 11 (ls) (aI v :: aI i :: aQ (some a) :: st) h = gA h a i (ex cal k_St_addPerson 12 (ls) (st) (sa h a (upf (ai h a) (wr i) v))) := e_ias cal rfl h3
theorem u_St_addPerson_12 : ex cal k_St_addPerson 12 (aQ r :: ls) (st) h = ex cal k_St_addPerson 13 (aQ r :: ls) (aQ r :: st) h := ex_st cal (s := s_ald 0 13) rfl rfl
theorem u_St_addPerson_13 (hx : aNl y = true) : ex cal k_St_addPerson 13 (ls) (y :: st) h = ex cal k_St_addPerson 14 (ls) (y :: y :: st) h := e_dup rfl hx
theorem u_St_addPerson_14 : ex cal k_St_addPerson 14 (ls) (aQ (some a) :: st) h = gO h a 7 (ex cal k_St_addPerson 17 (ls) (gf h a 2 :: st) h) := e_gf cal rfl
theorem u_St_addPerson_17 : ex cal k_St_addPerson 17 (ls) (st) h = ex cal k_St_addPerson 18 (ls) (aI 1 :: st) h := e_push cal rfl
theorem u_St_addPerson_18 : ex cal k_St_addPerson 18 (x0 :: x1 :: aI v :: ls) (st) h = ex cal k_St_addPerson 19 (x0 :: x1 :: aI v :: ls) (aI v :: st) h := ex_st cal (s := s_ild 2 19) rfl rfl
theorem u_St_addPerson_19 : ex cal k_St_addPerson 19 (ls) (aI j :: aI i :: st) h = ex cal k_St_addPerson 20 (ls) (aI (wshl i j) :: st) h := e_bin cal rfl
theorem u_St_addPerson_20 : ex cal k_St_addPerson 20 (ls) (aI j :: aI i :: st) h = ex cal k_St_addPerson 21 (ls) (aI (wor i j) :: st) h := e_bin cal rfl
theorem u_St_addPerson_21 : ex cal k_St_addPerson 21 (ls) (aI v :: aQ (some a) :: st) h = gO h a 7 (ex cal k_St_addPerson 24 (ls) (st) (pf h a 2 (aI v))) := e_pf1 rfl rfl
theorem u_St_addPerson_24 : ex cal k_St_addPerson 24 (aQ r :: ls) (st) h = ex cal k_St_addPerson 25 (aQ r :: ls) (aQ r :: st) h := ex_st cal (s := s_ald 0 25) rfl rfl
theorem u_St_addPerson_25 (hx : aNl y = true) : ex cal k_St_addPerson 25 (ls) (y :: st) h = ex cal k_St_addPerson 26 (ls) (y :: y :: st) h := e_dup rfl hx
theorem u_St_addPerson_26 : ex cal k_St_addPerson 26 (ls) (aQ (some a) :: st) h = gO h a 7 (ex cal k_St_addPerson 29 (ls) (gf h a 0 :: st) h) := e_gf cal rfl
theorem u_St_addPerson_29 : ex cal k_St_addPerson 29 (ls) (st) h = ex cal k_St_addPerson 30 (ls) (aI 1 :: st) h := e_push cal rfl
theorem u_St_addPerson_30 : ex cal k_St_addPerson 30 (ls) (aI j :: aI i :: st) h = ex cal k_St_addPerson 31 (ls) (aI (i + j) :: st) h := e_bin cal rfl
theorem u_St_addPerson_31 : ex cal k_St_addPerson 31 (ls) (aI v :: aQ (some a) :: st) h = gO h a 7 (ex cal k_St_addPerson 34 (ls) (st) (pf h a 0 (aI v))) := e_pf1 rfl rfl
theorem u_St_addPerson_34 : ex cal k_St_addPerson 34 (x0 :: x1 :: aI v :: ls) (st) h = ex cal k_St_addPerson 35 (x0 :: x1 :: aI v :: ls) (aI v :: st) h := ex_st cal (s := s_ild 2 35) rfl rfl
theorem u_St_addPerson_35 : ex cal k_St_addPerson 35 (ls) ([aI v]) h = some (some (aI v), h) := e_ret1 cal rfl
theorem n_St_addPerson (d : Nat) : ev (d + 1) M_St_addPerson [aQ (some a), aI z0] h = ex (ev d) k_St_addPerson 0 [aQ (some a), aI z0, aU] [] h := rfl
theorem u_St_addChange_0 : ex cal k_St_addChange 0 (aQ r :: ls) (st) h = ex cal k_St_addChange 1 (aQ r :: ls) (aQ r :: st) h := ex_st cal (s := s_ald 0 1) rfl rfl
theorem u_St_addChange_1 : ex cal k_St_addChange 1 (ls) (aQ (some a) :: st) h = gO h a 7 (ex cal k_St_addChange 4 (ls) (gf h a 9 :: st) h) := e_gf cal rfl
theorem u_St_addChange_4 : ex cal k_St_addChange 4 (x0 :: aQ r :: ls) (st) h = ex cal k_St_addChange 5 (x0 :: aQ r :: ls) (aQ r :: st) h := ex_st cal (s := s_ald 1 5) rfl rfl
theorem u_St_addChange_5 : ex cal k_St_addChange 5 (ls) (aQ (some a) :: st) h = gO h a 1 (ex cal k_St_addChange 8 (ls) (gf h a 0 :: st) h) := e_gf cal rfl
theorem u_St_addChange_8 : ex cal k_St_addChange 8 (x0 :: aQ r :: ls) (st) h = ex cal k_St_addChange 9 (x0 :: aQ r :: ls) (aQ r :: st) h := ex_st cal (s := s_ald 1 9) rfl rfl
theorem u_St_addChange_9 : ex cal k_St_addChange 9 (ls) (aQ r :: aI i :: aQ (some a) :: st) h = gR h a 1 i (gB (okQ h 1 r) (ex cal k_St_addChange 10 (ls) (st) (sr h a (upf (ra h a) (wr i) r)))) := e_ras cal rfl
theorem u_St_addChange_10 : ex cal k_St_addChange 10 (aQ r :: ls) (st) h = ex cal k_St_addChange 11 (aQ r :: ls) (aQ r :: st) h := ex_st cal (s := s_ald 0 11) rfl rfl
theorem u_St_addChange_11 : ex cal k_St_addChange 11 (ls) (aQ (some a) :: st) h = gO h a 7 (ex cal k_St_addChange 14 (ls) (gf h a 7 :: st) h) := e_gf cal rfl
theorem u_St_addChange_14 : ex cal k_St_addChange 14 (x0 :: aQ r :: ls) (st) h = ex cal k_St_addChange 15 (x0 :: aQ r :: ls) (aQ r :: st) h := ex_st cal (s := s_ald 1 15) rfl rfl
theorem u_St_addChange_15 : ex cal k_St_addChange 15 (ls) (aQ (some a) :: st) h = gO h a 1 (ex cal k_St_addChange 18 (ls) (gf h a 2 :: st) h) := e_gf cal rfl
theorem u_St_addChange_18 : ex cal k_St_addChange 18 (x0 :: x1 :: aQ r :: ls) (st) h = ex cal k_St_addChange 19 (x0 :: x1 :: aQ r :: ls) (aQ r :: st) h := ex_st cal (s := s_ald 2 19) rfl rfl
theorem u_St_addChange_19 : ex cal k_St_addChange 19 (ls) (aQ r :: aI i :: aQ (some a) :: st) h = gR h a 0 i (gB (okQ h 0 r) (ex cal k_St_addChange 20 (ls) (st) (sr h a (upf (ra h a) (wr i) r)))) := e_ras cal rfl
theorem u_St_addChange_20 : ex cal k_St_addChange 20 (aQ r :: ls) (st) h = ex cal k_St_addChange 21 (aQ r :: ls) (aQ r :: st) h := ex_st cal (s := s_ald 0 21) rfl rfl
theorem u_St_addChange_21 (hx : aNl y = true) : ex cal k_St_addChange 21 (ls) (y :: st) h = ex cal k_St_addChange 22 (ls) (y :: y :: st) h := e_dup rfl hx
theorem u_St_addChange_22 : ex cal k_St_addChange 22 (ls) (aQ (some a) :: st) h = gO h a 7 (ex cal k_St_addChange 25 (ls) (gf h a 8 :: st) h) := e_gf cal rfl
theorem u_St_addChange_25 : ex cal k_St_addChange 25 (ls) (st) h = ex cal k_St_addChange 26 (ls) (aI 1 :: st) h := e_push cal rfl
theorem u_St_addChange_26 : ex cal k_St_addChange 26 (ls) (aI j :: aI i :: st) h = ex cal k_St_addChange 27 (ls) (aI (i + j) :: st) h := e_bin cal rfl
theorem u_St_addChange_27 : ex cal k_St_addChange 27 (ls) (aI v :: aQ (some a) :: st) h = gO h a 7 (ex cal k_St_addChange 30 (ls) (st) (pf h a 8 (aI v))) := e_pf1 rfl rfl
theorem u_St_addChange_30 : ex cal k_St_addChange 30 (ls) ([]) h = some (none, h) := e_ret0 cal rfl
theorem n_St_addChange (d : Nat) : ev (d + 1) M_St_addChange [aQ (some a), aQ r0, aQ r1] h = ex (ev d) k_St_addChange 0 [aQ (some a), aQ r0, aQ r1] [] h := rfl
theorem u_St_isPerson_0 : ex cal k_St_isPerson 0 (x0 :: aI v :: ls) (st) h = ex cal k_St_isPerson 1 (x0 :: aI v :: ls) (aI v :: st) h := ex_st cal (s := s_ild 1 1) rfl rfl
theorem u_St_isPerson_1 : ex cal k_St_isPerson 1 (ls) (aI i :: st) h = if wr i < 0 then ex cal k_St_isPerson 16 (ls) (st) h else ex cal k_St_isPerson 4 (ls) (st) h := e_iflt cal rfl
theorem u_St_isPerson_4 : ex cal k_St_isPerson 4 (x0 :: aI v :: ls) (st) h = ex cal k_St_isPerson 5 (x0 :: aI v :: ls) (aI v :: st) h := ex_st cal (s := s_ild 1 5) rfl rfl
theorem u_St_isPerson_5 : ex cal k_St_isPerson 5 (aQ r :: ls) (st) h = ex cal k_St_isPerson 6 (aQ r :: ls) (aQ r :: st) h := ex_st cal (s := s_ald 0 6) rfl rfl
theorem u_St_isPerson_6 : ex cal k_St_isPerson 6 (ls) (aQ (some a) :: st) h = gO h a 7 (ex cal k_St_isPerson 9 (ls) (gf h a 0 :: st) h) := e_gf cal rfl
theorem u_St_isPerson_9 : ex cal k_St_isPerson 9 (ls) (aI j :: aI i :: st) h = if wr i < wr j then ex cal k_St_isPerson 12 (ls) (st) h else ex cal k_St_isPerson 16 (ls) (st) h := e_icge cal rfl
theorem u_St_isPerson_12 : ex cal k_St_isPerson 12 (ls) (st) h = ex cal k_St_isPerson 13 (ls) (aI 1 :: st) h := e_push cal rfl
theorem u_St_isPerson_13 : ex cal k_St_isPerson 13 (ls) (st) h = ex cal k_St_isPerson 17 (ls) (st) h := ex_st cal (s := s_go 17) rfl rfl
theorem u_St_isPerson_16 : ex cal k_St_isPerson 16 (ls) (st) h = ex cal k_St_isPerson 17 (ls) (aI 0 :: st) h := e_push cal rfl
theorem u_St_isPerson_17 (hv : v = 0 ∨ v = 1) : ex cal k_St_isPerson 17 (ls) ([aI v]) h = some (some (aI v), h) := e_ret22 rfl hv
theorem n_St_isPerson (d : Nat) : ev (d + 1) M_St_isPerson [aQ (some a), aI z0] h = ex (ev d) k_St_isPerson 0 [aQ (some a), aI z0] [] h := rfl
theorem u_St_isHere_0 : ex cal k_St_isHere 0 (aQ r :: ls) (st) h = ex cal k_St_isHere 1 (aQ r :: ls) (aQ r :: st) h := ex_st cal (s := s_ald 0 1) rfl rfl
theorem u_St_isHere_1 : ex cal k_St_isHere 1 (ls) (aQ (some a) :: st) h = gO h a 7 (ex cal k_St_isHere 4 (ls) (gf h a 2 :: st) h) := e_gf cal rfl
theorem u_St_isHere_4 : ex cal k_St_isHere 4 (x0 :: aI v :: ls) (st) h = ex cal k_St_isHere 5 (x0 :: aI v :: ls) (aI v :: st) h := ex_st cal (s := s_ild 1 5) rfl rfl
theorem u_St_isHere_5 : ex cal k_St_isHere 5 (ls) (aI j :: aI i :: st) h = ex cal k_St_isHere 6 (ls) (aI (wshr i j) :: st) h := e_bin cal rfl
theorem u_St_isHere_6 : ex cal k_St_isHere 6 (ls) (st) h = ex cal k_St_isHere 7 (ls) (aI 1 :: st) h := e_push cal rfl
theorem u_St_isHere_7 : ex cal k_St_isHere 7 (ls) (aI j :: aI i :: st) h = ex cal k_St_isHere 8 (ls) (aI (wand i j) :: st) h := e_bin cal rfl
theorem u_St_isHere_8 : ex cal k_St_isHere 8 (ls) (st) h = ex cal k_St_isHere 9 (ls) (aI 1 :: st) h := e_push cal rfl
theorem u_St_isHere_9 : ex cal k_St_isHere 9 (ls) (aI j :: aI i :: st) h = if wr i = wr j then ex cal k_St_isHere 12 (ls) (st) h else ex cal k_St_isHere 16 (ls) (st) h := e_icne cal rfl
theorem u_St_isHere_12 : ex cal k_St_isHere 12 (ls) (st) h = ex cal k_St_isHere 13 (ls) (aI 1 :: st) h := e_push cal rfl
theorem u_St_isHere_13 : ex cal k_St_isHere 13 (ls) (st) h = ex cal k_St_isHere 17 (ls) (st) h := ex_st cal (s := s_go 17) rfl rfl
theorem u_St_isHere_16 : ex cal k_St_isHere 16 (ls) (st) h = ex cal k_St_isHere 17 (ls) (aI 0 :: st) h := e_push cal rfl
theorem u_St_isHere_17 (hv : v = 0 ∨ v = 1) : ex cal k_St_isHere 17 (ls) ([aI v]) h = some (some (aI v), h) := e_ret22 rfl hv
theorem n_St_isHere (d : Nat) : ev (d + 1) M_St_isHere [aQ (some a), aI z0] h = ex (ev d) k_St_isHere 0 [aQ (some a), aI z0] [] h := rfl
theorem u_St_pageOf_0 : ex cal k_St_pageOf 0 (x0 :: aI v :: ls) (st) h = ex cal k_St_pageOf 1 (x0 :: aI v :: ls) (aI v :: st) h := ex_st cal (s := s_ild 1 1) rfl rfl
theorem u_St_pageOf_1 : ex cal k_St_pageOf 1 (ls) (aI i :: st) h = if wr i < 0 then ex cal k_St_pageOf 19 (ls) (st) h else ex cal k_St_pageOf 4 (ls) (st) h := e_iflt cal rfl
theorem u_St_pageOf_4 : ex cal k_St_pageOf 4 (x0 :: aI v :: ls) (st) h = ex cal k_St_pageOf 5 (x0 :: aI v :: ls) (aI v :: st) h := ex_st cal (s := s_ild 1 5) rfl rfl
theorem u_St_pageOf_5 : ex cal k_St_pageOf 5 (ls) (st) h = ex cal k_St_pageOf 7 (ls) (aI 6 :: st) h := e_push cal rfl
theorem u_St_pageOf_7 : ex cal k_St_pageOf 7 (ls) (aI j :: aI i :: st) h = if wr i < wr j then ex cal k_St_pageOf 10 (ls) (st) h else ex cal k_St_pageOf 19 (ls) (st) h := e_icge cal rfl
theorem u_St_pageOf_10 : ex cal k_St_pageOf 10 (aQ r :: ls) (st) h = ex cal k_St_pageOf 11 (aQ r :: ls) (aQ r :: st) h := ex_st cal (s := s_ald 0 11) rfl rfl
theorem u_St_pageOf_11 : ex cal k_St_pageOf 11 (ls) (aQ (some a) :: st) h = gO h a 7 (ex cal k_St_pageOf 14 (ls) (gf h a 7 :: st) h) := e_gf cal rfl
theorem u_St_pageOf_14 : ex cal k_St_pageOf 14 (x0 :: aI v :: ls) (st) h = ex cal k_St_pageOf 15 (x0 :: aI v :: ls) (aI v :: st) h := ex_st cal (s := s_ild 1 15) rfl rfl
theorem u_St_pageOf_15 : ex cal k_St_pageOf 15 (ls) (aI i :: aQ (some a) :: st) h = gR h a 0 i (ex cal k_St_pageOf 16 (ls) (aQ (ra h a (wr i)) :: st) h) := e_ra cal rfl
theorem u_St_pageOf_16 : ex cal k_St_pageOf 16 (ls) (st) h = ex cal k_St_pageOf 20 (ls) (st) h := ex_st cal (s := s_go 20) rfl rfl
theorem u_St_pageOf_19 : ex cal k_St_pageOf 19 (ls) (st) h = ex cal k_St_pageOf 20 (ls) (aQ none :: st) h := e_push cal rfl
theorem u_St_pageOf_20 : ex cal k_St_pageOf 20 (ls) ([aQ r]) h = some (some (aQ r), h) := e_ret3 cal rfl
theorem n_St_pageOf (d : Nat) : ev (d + 1) M_St_pageOf [aQ (some a), aI z0] h = ex (ev d) k_St_pageOf 0 [aQ (some a), aI z0] [] h := rfl
theorem u_St_lineOf_0 : ex cal k_St_lineOf 0 (aQ r :: ls) (st) h = ex cal k_St_lineOf 1 (aQ r :: ls) (aQ r :: st) h := ex_st cal (s := s_ald 0 1) rfl rfl
theorem u_St_lineOf_1 : ex cal k_St_lineOf 1 (x0 :: aI v :: ls) (st) h = ex cal k_St_lineOf 2 (x0 :: aI v :: ls) (aI v :: st) h := ex_st cal (s := s_ild 1 2) rfl rfl
theorem u_St_lineOf_2 (hl : Nat.ble st.length 4 = true) : ex cal k_St_lineOf 2 (ls) (aI z0 :: aQ (some a) :: st) h = gO h a 7 (kk cal k_St_lineOf 5 ls st (cal M_St_pageOf [aQ (some a), aI z0] h)) := e_callV cal (ci := 7) (as := [aI z0]) rfl (by decide) rfl (Nat.le_of_ble_eq_true hl)
theorem u_St_lineOf_5 (hx : aNl x2 = true) : ex cal k_St_lineOf 5 (x0 :: x1 :: x2 :: y :: ls) (aQ r :: st) h = ex cal k_St_lineOf 6 (x0 :: x1 :: x2 :: aQ r :: ls) (st) h := e_ast (ls := x0 :: x1 :: x2 :: y :: ls) (k := 3) rfl hx (by simp only [List.length_cons]; omega)
theorem u_St_lineOf_6 : ex cal k_St_lineOf 6 (x0 :: x1 :: x2 :: aQ r :: ls) (st) h = ex cal k_St_lineOf 7 (x0 :: x1 :: x2 :: aQ r :: ls) (aQ r :: st) h := ex_st cal (s := s_ald 3 7) rfl rfl
theorem u_St_lineOf_7 : ex cal k_St_lineOf 7 (ls) (aQ r :: st) h = if r = none then ex cal k_St_lineOf 10 (ls) (st) h else ex cal k_St_lineOf 14 (ls) (st) h := e_nul cal rfl
theorem u_St_lineOf_10 : ex cal k_St_lineOf 10 (ls) (st) h = ex cal k_St_lineOf 11 (ls) (aQ none :: st) h := e_push cal rfl
theorem u_St_lineOf_11 : ex cal k_St_lineOf 11 (ls) (st) h = ex cal k_St_lineOf 19 (ls) (st) h := ex_st cal (s := s_go 19) rfl rfl
theorem u_St_lineOf_14 : ex cal k_St_lineOf 14 (x0 :: x1 :: x2 :: aQ r :: ls) (st) h = ex cal k_St_lineOf 15 (x0 :: x1 :: x2 :: aQ r :: ls) (aQ r :: st) h := ex_st cal (s := s_ald 3 15) rfl rfl
theorem u_St_lineOf_15 : ex cal k_St_lineOf 15 (x0 :: x1 :: aI v :: ls) (st) h = ex cal k_St_lineOf 16 (x0 :: x1 :: aI v :: ls) (aI v :: st) h := ex_st cal (s := s_ild 2 16) rfl rfl
theorem u_St_lineOf_16 (hl : Nat.ble st.length 4 = true) : ex cal k_St_lineOf 16 (ls) (aI z0 :: aQ (some a) :: st) h = gO h a 4 (kk cal k_St_lineOf 19 ls st (cal M_Pg_rowAt [aQ (some a), aI z0] h)) := e_callV cal (ci := 4) (as := [aI z0]) rfl (by decide) rfl (Nat.le_of_ble_eq_true hl)
theorem u_St_lineOf_19 : ex cal k_St_lineOf 19 (ls) ([aQ r]) h = some (some (aQ r), h) := e_ret3 cal rfl
theorem n_St_lineOf (d : Nat) : ev (d + 1) M_St_lineOf [aQ (some a), aI z0, aI z1] h = ex (ev d) k_St_lineOf 0 [aQ (some a), aI z0, aI z1, aU] [] h := rfl
theorem u_St_changeOf_0 : ex cal k_St_changeOf 0 (x0 :: aI v :: ls) (st) h = ex cal k_St_changeOf 1 (x0 :: aI v :: ls) (aI v :: st) h := ex_st cal (s := s_ild 1 1) rfl rfl
theorem u_St_changeOf_1 : ex cal k_St_changeOf 1 (ls) (aI i :: st) h = if wr i < 0 then ex cal k_St_changeOf 21 (ls) (st) h else ex cal k_St_changeOf 4 (ls) (st) h := e_iflt cal rfl
theorem u_St_changeOf_4 : ex cal k_St_changeOf 4 (x0 :: aI v :: ls) (st) h = ex cal k_St_changeOf 5 (x0 :: aI v :: ls) (aI v :: st) h := ex_st cal (s := s_ild 1 5) rfl rfl
theorem u_St_changeOf_5 : ex cal k_St_changeOf 5 (aQ r :: ls) (st) h = ex cal k_St_changeOf 6 (aQ r :: ls) (aQ r :: st) h := ex_st cal (s := s_ald 0 6) rfl rfl
theorem u_St_changeOf_6 : ex cal k_St_changeOf 6 (ls) (aQ (some a) :: st) h = gO h a 7 (ex cal k_St_changeOf 9 (ls) (gf h a 8 :: st) h) := e_gf cal rfl
theorem u_St_changeOf_9 : ex cal k_St_changeOf 9 (ls) (aI j :: aI i :: st) h = if wr i < wr j then ex cal k_St_changeOf 12 (ls) (st) h else ex cal k_St_changeOf 21 (ls) (st) h := e_icge cal rfl
theorem u_St_changeOf_12 : ex cal k_St_changeOf 12 (aQ r :: ls) (st) h = ex cal k_St_changeOf 13 (aQ r :: ls) (aQ r :: st) h := ex_st cal (s := s_ald 0 13) rfl rfl
theorem u_St_changeOf_13 : ex cal k_St_changeOf 13 (ls) (aQ (some a) :: st) h = gO h a 7 (ex cal k_St_changeOf 16 (ls) (gf h a 9 :: st) h) := e_gf cal rfl
theorem u_St_changeOf_16 : ex cal k_St_changeOf 16 (x0 :: aI v :: ls) (st) h = ex cal k_St_changeOf 17 (x0 :: aI v :: ls) (aI v :: st) h := ex_st cal (s := s_ild 1 17) rfl rfl
theorem u_St_changeOf_17 : ex cal k_St_changeOf 17 (ls) (aI i :: aQ (some a) :: st) h = gR h a 1 i (ex cal k_St_changeOf 18 (ls) (aQ (ra h a (wr i)) :: st) h) := e_ra cal rfl
theorem u_St_changeOf_18 : ex cal k_St_changeOf 18 (ls) (st) h = ex cal k_St_changeOf 22 (ls) (st) h := ex_st cal (s := s_go 22) rfl rfl
theorem u_St_changeOf_21 : ex cal k_St_changeOf 21 (ls) (st) h = ex cal k_St_changeOf 22 (ls) (aQ none :: st) h := e_push cal rfl
theorem u_St_changeOf_22 : ex cal k_St_changeOf 22 (ls) ([aQ r]) h = some (some (aQ r), h) := e_ret3 cal rfl
theorem n_St_changeOf (d : Nat) : ev (d + 1) M_St_changeOf [aQ (some a), aI z0] h = ex (ev d) k_St_changeOf 0 [aQ (some a), aI z0] [] h := rfl
theorem u_St_isAble_0 : ex cal k_St_isAble 0 (aQ r :: ls) (st) h = ex cal k_St_isAble 1 (aQ r :: ls) (aQ r :: st) h := ex_st cal (s := s_ald 0 1) rfl rfl
theorem u_St_isAble_1 : ex cal k_St_isAble 1 (x0 :: x1 :: aQ r :: ls) (st) h = ex cal k_St_isAble 2 (x0 :: x1 :: aQ r :: ls) (aQ r :: st) h := ex_st cal (s := s_ald 2 2) rfl rfl
theorem u_St_isAble_2 : ex cal k_St_isAble 2 (x0 :: aI v :: ls) (st) h = ex cal k_St_isAble 3 (x0 :: aI v :: ls) (aI v :: st) h := ex_st cal (s := s_ild 1 3) rfl rfl
theorem u_St_isAble_3 : ex cal k_St_isAble 3 (aQ r :: ls) (st) h = ex cal k_St_isAble 4 (aQ r :: ls) (aQ r :: st) h := ex_st cal (s := s_ald 0 4) rfl rfl
theorem u_St_isAble_4 : ex cal k_St_isAble 4 (ls) (aQ (some a) :: st) h = gO h a 7 (ex cal k_St_isAble 7 (ls) (gf h a 3 :: st) h) := e_gf cal rfl
theorem u_St_isAble_7 (hl : Nat.ble st.length 4 = true) : ex cal k_St_isAble 7 (ls) (aI z1 :: aI z0 :: aQ (some a) :: st) h = gO h a 4 (kk cal k_St_isAble 10 ls st (cal M_Pg_knownBy [aQ (some a), aI z0, aI z1] h)) := e_callV cal (ci := 4) (as := [aI z1, aI z0]) rfl (by decide) rfl (Nat.le_of_ble_eq_true hl)
theorem u_St_isAble_10 : ex cal k_St_isAble 10 (x0 :: x1 :: aQ r :: ls) (st) h = ex cal k_St_isAble 11 (x0 :: x1 :: aQ r :: ls) (aQ r :: st) h := ex_st cal (s := s_ald 2 11) rfl rfl
theorem u_St_isAble_11 (hl : Nat.ble st.length 4 = true) : ex cal k_St_isAble 11 (ls) (aQ r1 :: aI z0 :: aQ (some a) :: st) h = gO h a 7 (kk cal k_St_isAble 14 ls st (cal M_St_isEnough [aQ (some a), aI z0, aQ r1] h)) := e_callV cal (ci := 7) (as := [aQ r1, aI z0]) rfl (by decide) rfl (Nat.le_of_ble_eq_true hl)
theorem u_St_isAble_14 (hv : v = 0 ∨ v = 1) : ex cal k_St_isAble 14 (ls) ([aI v]) h = some (some (aI v), h) := e_ret22 rfl hv
theorem n_St_isAble (d : Nat) : ev (d + 1) M_St_isAble [aQ (some a), aI z0, aQ r1] h = ex (ev d) k_St_isAble 0 [aQ (some a), aI z0, aQ r1] [] h := rfl
theorem u_St_isEnough_0 : ex cal k_St_isEnough 0 (x0 :: aI v :: ls) (st) h = ex cal k_St_isEnough 1 (x0 :: aI v :: ls) (aI v :: st) h := ex_st cal (s := s_ild 1 1) rfl rfl
theorem u_St_isEnough_1 : ex cal k_St_isEnough 1 (ls) (st) h = ex cal k_St_isEnough 3 (ls) (aI 100 :: st) h := e_push cal rfl
theorem u_St_isEnough_3 : ex cal k_St_isEnough 3 (ls) (aI j :: aI i :: st) h = ex cal k_St_isEnough 4 (ls) (aI (i * j) :: st) h := e_bin cal rfl
theorem u_St_isEnough_4 : ex cal k_St_isEnough 4 (aQ r :: ls) (st) h = ex cal k_St_isEnough 5 (aQ r :: ls) (aQ r :: st) h := ex_st cal (s := s_ald 0 5) rfl rfl
theorem u_St_isEnough_5 : ex cal k_St_isEnough 5 (ls) (aQ (some a) :: st) h = gO h a 7 (ex cal k_St_isEnough 8 (ls) (gf h a 4 :: st) h) := e_gf cal rfl
theorem u_St_isEnough_8 : ex cal k_St_isEnough 8 (x0 :: x1 :: aQ r :: ls) (st) h = ex cal k_St_isEnough 9 (x0 :: x1 :: aQ r :: ls) (aQ r :: st) h := ex_st cal (s := s_ald 2 9) rfl rfl
theorem u_St_isEnough_9 (hl : Nat.ble st.length 4 = true) : ex cal k_St_isEnough 9 (ls) (aQ (some a) :: st) h = gO h a 4 (kk cal k_St_isEnough 12 ls st (cal M_Pg_size [aQ (some a)] h)) := e_callV cal (ci := 4) (as := []) rfl (by decide) rfl (Nat.le_of_ble_eq_true hl)
theorem u_St_isEnough_12 : ex cal k_St_isEnough 12 (ls) (aI j :: aI i :: st) h = ex cal k_St_isEnough 13 (ls) (aI (i * j) :: st) h := e_bin cal rfl
theorem u_St_isEnough_13 : ex cal k_St_isEnough 13 (ls) (aI j :: aI i :: st) h = if wr i < wr j then ex cal k_St_isEnough 20 (ls) (st) h else ex cal k_St_isEnough 16 (ls) (st) h := e_iclt cal rfl
theorem u_St_isEnough_16 : ex cal k_St_isEnough 16 (ls) (st) h = ex cal k_St_isEnough 17 (ls) (aI 1 :: st) h := e_push cal rfl
theorem u_St_isEnough_17 : ex cal k_St_isEnough 17 (ls) (st) h = ex cal k_St_isEnough 21 (ls) (st) h := ex_st cal (s := s_go 21) rfl rfl
theorem u_St_isEnough_20 : ex cal k_St_isEnough 20 (ls) (st) h = ex cal k_St_isEnough 21 (ls) (aI 0 :: st) h := e_push cal rfl
theorem u_St_isEnough_21 (hv : v = 0 ∨ v = 1) : ex cal k_St_isEnough 21 (ls) ([aI v]) h = some (some (aI v), h) := e_ret22 rfl hv
theorem n_St_isEnough (d : Nat) : ev (d + 1) M_St_isEnough [aQ (some a), aI z0, aQ r1] h = ex (ev d) k_St_isEnough 0 [aQ (some a), aI z0, aQ r1] [] h := rfl
theorem u_St_linesMadeBy_0 : ex cal k_St_linesMadeBy 0 (ls) (st) h = ex cal k_St_linesMadeBy 1 (ls) (aI 0 :: st) h := e_push cal rfl
theorem u_St_linesMadeBy_1 (hx : aNl x1 = true) : ex cal k_St_linesMadeBy 1 (x0 :: x1 :: y :: ls) (aI v :: st) h = ex cal k_St_linesMadeBy 2 (x0 :: x1 :: aI v :: ls) (st) h := e_ist (ls := x0 :: x1 :: y :: ls) (k := 2) rfl hx (by simp only [List.length_cons]; omega)
theorem u_St_linesMadeBy_2 : ex cal k_St_linesMadeBy 2 (aQ r :: ls) (st) h = ex cal k_St_linesMadeBy 3 (aQ r :: ls) (aQ r :: st) h := ex_st cal (s := s_ald 0 3) rfl rfl
theorem u_St_linesMadeBy_3 : ex cal k_St_linesMadeBy 3 (ls) (aQ (some a) :: st) h = gO h a 7 (ex cal k_St_linesMadeBy 6 (ls) (gf h a 7 :: st) h) := e_gf cal rfl
theorem u_St_linesMadeBy_6 (hx : aNl x2 = true) : ex cal k_St_linesMadeBy 6 (x0 :: x1 :: x2 :: y :: ls) (aQ r :: st) h = ex cal k_St_linesMadeBy 7 (x0 :: x1 :: x2 :: aQ r :: ls) (st) h := e_ast (ls := x0 :: x1 :: x2 :: y :: ls) (k := 3) rfl hx (by simp only [List.length_cons]; omega)
theorem u_St_linesMadeBy_7 : ex cal k_St_linesMadeBy 7 (x0 :: x1 :: x2 :: aQ r :: ls) (st) h = ex cal k_St_linesMadeBy 8 (x0 :: x1 :: x2 :: aQ r :: ls) (aQ r :: st) h := ex_st cal (s := s_ald 3 8) rfl rfl
theorem u_St_linesMadeBy_8 : ex cal k_St_linesMadeBy 8 (ls) (aQ (some a) :: st) h = gB (isAR h a) (ex cal k_St_linesMadeBy 9 (ls) (aI (al h a) :: st) h) := e_len cal rfl
theorem u_St_linesMadeBy_9 (hx : aNl x3 = true) : ex cal k_St_linesMadeBy 9 (x0 :: x1 :: x2 :: x3 :: y :: ls) (aI v :: st) h = ex cal k_St_linesMadeBy 11 (x0 :: x1 :: x2 :: x3 :: aI v :: ls) (st) h := e_ist (ls := x0 :: x1 :: x2 :: x3 :: y :: ls) (k := 4) rfl hx (by simp only [List.length_cons]; omega)
theorem u_St_linesMadeBy_11 : ex cal k_St_linesMadeBy 11 (ls) (st) h = ex cal k_St_linesMadeBy 12 (ls) (aI 0 :: st) h := e_push cal rfl
theorem u_St_linesMadeBy_12 (hx : aNl x4 = true) : ex cal k_St_linesMadeBy 12 (x0 :: x1 :: x2 :: x3 :: x4 :: y :: ls) (aI v :: st) h = ex cal k_St_linesMadeBy 14 (x0 :: x1 :: x2 :: x3 :: x4 :: aI v :: ls) (st) h := e_ist (ls := x0 :: x1 :: x2 :: x3 :: x4 :: y :: ls) (k := 5) rfl hx (by simp only [List.length_cons]; omega)
theorem u_St_linesMadeBy_14 : ex cal k_St_linesMadeBy 14 (x0 :: x1 :: x2 :: x3 :: x4 :: aI v :: ls) (st) h = ex cal k_St_linesMadeBy 16 (x0 :: x1 :: x2 :: x3 :: x4 :: aI v :: ls) (aI v :: st) h := ex_st cal (s := s_ild 5 16) rfl rfl
theorem u_St_linesMadeBy_16 : ex cal k_St_linesMadeBy 16 (x0 :: x1 :: x2 :: x3 :: aI v :: ls) (st) h = ex cal k_St_linesMadeBy 18 (x0 :: x1 :: x2 :: x3 :: aI v :: ls) (aI v :: st) h := ex_st cal (s := s_ild 4 18) rfl rfl
theorem u_St_linesMadeBy_18 : ex cal k_St_linesMadeBy 18 (ls) (aI j :: aI i :: st) h = if wr i < wr j then ex cal k_St_linesMadeBy 21 (ls) (st) h else ex cal k_St_linesMadeBy 42 (ls) (st) h := e_icge cal rfl
theorem u_St_linesMadeBy_21 : ex cal k_St_linesMadeBy 21 (x0 :: x1 :: x2 :: aQ r :: ls) (st) h = ex cal k_St_linesMadeBy 22 (x0 :: x1 :: x2 :: aQ r :: ls) (aQ r :: st) h := ex_st cal (s := s_ald 3 22) rfl rfl
theorem u_St_linesMadeBy_22 : ex cal k_St_linesMadeBy 22 (x0 :: x1 :: x2 :: x3 :: x4 :: aI v :: ls) (st) h = ex cal k_St_linesMadeBy 24 (x0 :: x1 :: x2 :: x3 :: x4 :: aI v :: ls) (aI v :: st) h := ex_st cal (s := s_ild 5 24) rfl rfl
theorem u_St_linesMadeBy_24 : ex cal k_St_linesMadeBy 24 (ls) (aI i :: aQ (some a) :: st) h = gR h a 0 i (ex cal k_St_linesMadeBy 25 (ls) (aQ (ra h a (wr i)) :: st) h) := e_ra cal rfl
theorem u_St_linesMadeBy_25 (hx : aNl x5 = true) : ex cal k_St_linesMadeBy 25 (x0 :: x1 :: x2 :: x3 :: x4 :: x5 :: y :: ls) (aQ r :: st) h = ex cal k_St_linesMadeBy 27 (x0 :: x1 :: x2 :: x3 :: x4 :: x5 :: aQ r :: ls) (st) h := e_ast (ls := x0 :: x1 :: x2 :: x3 :: x4 :: x5 :: y :: ls) (k := 6) rfl hx (by simp only [List.length_cons]; omega)
theorem u_St_linesMadeBy_27 : ex cal k_St_linesMadeBy 27 (x0 :: x1 :: aI v :: ls) (st) h = ex cal k_St_linesMadeBy 28 (x0 :: x1 :: aI v :: ls) (aI v :: st) h := ex_st cal (s := s_ild 2 28) rfl rfl
theorem u_St_linesMadeBy_28 : ex cal k_St_linesMadeBy 28 (x0 :: x1 :: x2 :: x3 :: x4 :: x5 :: aQ r :: ls) (st) h = ex cal k_St_linesMadeBy 30 (x0 :: x1 :: x2 :: x3 :: x4 :: x5 :: aQ r :: ls) (aQ r :: st) h := ex_st cal (s := s_ald 6 30) rfl rfl
theorem u_St_linesMadeBy_30 : ex cal k_St_linesMadeBy 30 (x0 :: aI v :: ls) (st) h = ex cal k_St_linesMadeBy 31 (x0 :: aI v :: ls) (aI v :: st) h := ex_st cal (s := s_ild 1 31) rfl rfl
theorem u_St_linesMadeBy_31 (hl : Nat.ble st.length 4 = true) : ex cal k_St_linesMadeBy 31 (ls) (aI z0 :: aQ (some a) :: st) h = gO h a 4 (kk cal k_St_linesMadeBy 34 ls st (cal M_Pg_madeBy [aQ (some a), aI z0] h)) := e_callV cal (ci := 4) (as := [aI z0]) rfl (by decide) rfl (Nat.le_of_ble_eq_true hl)
theorem u_St_linesMadeBy_34 : ex cal k_St_linesMadeBy 34 (ls) (aI j :: aI i :: st) h = ex cal k_St_linesMadeBy 35 (ls) (aI (i + j) :: st) h := e_bin cal rfl
theorem u_St_linesMadeBy_35 (hx : aNl x1 = true) : ex cal k_St_linesMadeBy 35 (x0 :: x1 :: y :: ls) (aI v :: st) h = ex cal k_St_linesMadeBy 36 (x0 :: x1 :: aI v :: ls) (st) h := e_ist (ls := x0 :: x1 :: y :: ls) (k := 2) rfl hx (by simp only [List.length_cons]; omega)
theorem u_St_linesMadeBy_36 (hx : aNl x4 = true) : ex cal k_St_linesMadeBy 36 (x0 :: x1 :: x2 :: x3 :: x4 :: aI v :: ls) (st) h = ex cal k_St_linesMadeBy 39 (x0 :: x1 :: x2 :: x3 :: x4 :: aI (v + 1) :: ls) (st) h := e_inc (ls := x0 :: x1 :: x2 :: x3 :: x4 :: aI v :: ls) (k := 5) rfl rfl hx
theorem u_St_linesMadeBy_39 : ex cal k_St_linesMadeBy 39 (ls) (st) h = ex cal k_St_linesMadeBy 14 (ls) (st) h := ex_st cal (s := s_go 14) rfl rfl
theorem u_St_linesMadeBy_42 : ex cal k_St_linesMadeBy 42 (x0 :: x1 :: aI v :: ls) (st) h = ex cal k_St_linesMadeBy 43 (x0 :: x1 :: aI v :: ls) (aI v :: st) h := ex_st cal (s := s_ild 2 43) rfl rfl
theorem u_St_linesMadeBy_43 : ex cal k_St_linesMadeBy 43 (ls) ([aI v]) h = some (some (aI v), h) := e_ret1 cal rfl
theorem n_St_linesMadeBy (d : Nat) : ev (d + 1) M_St_linesMadeBy [aQ (some a), aI z0] h = ex (ev d) k_St_linesMadeBy 0 [aQ (some a), aI z0, aU, aU, aU, aU, aU] [] h := rfl
theorem u_St_shareOf_0 : ex cal k_St_shareOf 0 (ls) (st) h = ex cal k_St_shareOf 1 (ls) (aI 0 :: st) h := e_push cal rfl
theorem u_St_shareOf_1 (hx : aNl x2 = true) : ex cal k_St_shareOf 1 (x0 :: x1 :: x2 :: y :: ls) (aI v :: st) h = ex cal k_St_shareOf 2 (x0 :: x1 :: x2 :: aI v :: ls) (st) h := e_ist (ls := x0 :: x1 :: x2 :: y :: ls) (k := 3) rfl hx (by simp only [List.length_cons]; omega)
theorem u_St_shareOf_2 : ex cal k_St_shareOf 2 (x0 :: x1 :: aQ r :: ls) (st) h = ex cal k_St_shareOf 3 (x0 :: x1 :: aQ r :: ls) (aQ r :: st) h := ex_st cal (s := s_ald 2 3) rfl rfl
theorem u_St_shareOf_3 : ex cal k_St_shareOf 3 (ls) (aQ (some a) :: st) h = gO h a 4 (ex cal k_St_shareOf 6 (ls) (gf h a 0 :: st) h) := e_gf cal rfl
theorem u_St_shareOf_6 (hx : aNl x3 = true) : ex cal k_St_shareOf 6 (x0 :: x1 :: x2 :: x3 :: y :: ls) (aQ r :: st) h = ex cal k_St_shareOf 8 (x0 :: x1 :: x2 :: x3 :: aQ r :: ls) (st) h := e_ast (ls := x0 :: x1 :: x2 :: x3 :: y :: ls) (k := 4) rfl hx (by simp only [List.length_cons]; omega)
theorem u_St_shareOf_8 : ex cal k_St_shareOf 8 (x0 :: x1 :: x2 :: x3 :: aQ r :: ls) (st) h = ex cal k_St_shareOf 10 (x0 :: x1 :: x2 :: x3 :: aQ r :: ls) (aQ r :: st) h := ex_st cal (s := s_ald 4 10) rfl rfl
theorem u_St_shareOf_10 : ex cal k_St_shareOf 10 (ls) (aQ (some a) :: st) h = gB (isAR h a) (ex cal k_St_shareOf 11 (ls) (aI (al h a) :: st) h) := e_len cal rfl
theorem u_St_shareOf_11 (hx : aNl x4 = true) : ex cal k_St_shareOf 11 (x0 :: x1 :: x2 :: x3 :: x4 :: y :: ls) (aI v :: st) h = ex cal k_St_shareOf 13 (x0 :: x1 :: x2 :: x3 :: x4 :: aI v :: ls) (st) h := e_ist (ls := x0 :: x1 :: x2 :: x3 :: x4 :: y :: ls) (k := 5) rfl hx (by simp only [List.length_cons]; omega)
theorem u_St_shareOf_13 : ex cal k_St_shareOf 13 (ls) (st) h = ex cal k_St_shareOf 14 (ls) (aI 0 :: st) h := e_push cal rfl
theorem u_St_shareOf_14 (hx : aNl x5 = true) : ex cal k_St_shareOf 14 (x0 :: x1 :: x2 :: x3 :: x4 :: x5 :: y :: ls) (aI v :: st) h = ex cal k_St_shareOf 16 (x0 :: x1 :: x2 :: x3 :: x4 :: x5 :: aI v :: ls) (st) h := e_ist (ls := x0 :: x1 :: x2 :: x3 :: x4 :: x5 :: y :: ls) (k := 6) rfl hx (by simp only [List.length_cons]; omega)
theorem u_St_shareOf_16 : ex cal k_St_shareOf 16 (x0 :: x1 :: x2 :: x3 :: x4 :: x5 :: aI v :: ls) (st) h = ex cal k_St_shareOf 18 (x0 :: x1 :: x2 :: x3 :: x4 :: x5 :: aI v :: ls) (aI v :: st) h := ex_st cal (s := s_ild 6 18) rfl rfl
theorem u_St_shareOf_18 : ex cal k_St_shareOf 18 (x0 :: x1 :: x2 :: x3 :: x4 :: aI v :: ls) (st) h = ex cal k_St_shareOf 20 (x0 :: x1 :: x2 :: x3 :: x4 :: aI v :: ls) (aI v :: st) h := ex_st cal (s := s_ild 5 20) rfl rfl
theorem u_St_shareOf_20 : ex cal k_St_shareOf 20 (ls) (aI j :: aI i :: st) h = if wr i < wr j then ex cal k_St_shareOf 23 (ls) (st) h else ex cal k_St_shareOf 65 (ls) (st) h := e_icge cal rfl
theorem u_St_shareOf_23 : ex cal k_St_shareOf 23 (x0 :: x1 :: x2 :: x3 :: aQ r :: ls) (st) h = ex cal k_St_shareOf 25 (x0 :: x1 :: x2 :: x3 :: aQ r :: ls) (aQ r :: st) h := ex_st cal (s := s_ald 4 25) rfl rfl
theorem u_St_shareOf_25 : ex cal k_St_shareOf 25 (x0 :: x1 :: x2 :: x3 :: x4 :: x5 :: aI v :: ls) (st) h = ex cal k_St_shareOf 27 (x0 :: x1 :: x2 :: x3 :: x4 :: x5 :: aI v :: ls) (aI v :: st) h := ex_st cal (s := s_ild 6 27) rfl rfl
theorem u_St_shareOf_27 : ex cal k_St_shareOf 27 (ls) (aI i :: aQ (some a) :: st) h = gR h a 2 i (ex cal k_St_shareOf 28 (ls) (aQ (ra h a (wr i)) :: st) h) := e_ra cal rfl
theorem u_St_shareOf_28 (hx : aNl x6 = true) : ex cal k_St_shareOf 28 (x0 :: x1 :: x2 :: x3 :: x4 :: x5 :: x6 :: y :: ls) (aQ r :: st) h = ex cal k_St_shareOf 30 (x0 :: x1 :: x2 :: x3 :: x4 :: x5 :: x6 :: aQ r :: ls) (st) h := e_ast (ls := x0 :: x1 :: x2 :: x3 :: x4 :: x5 :: x6 :: y :: ls) (k := 7) rfl hx (by simp only [List.length_cons]; omega)
theorem u_St_shareOf_30 : ex cal k_St_shareOf 30 (aQ r :: ls) (st) h = ex cal k_St_shareOf 31 (aQ r :: ls) (aQ r :: st) h := ex_st cal (s := s_ald 0 31) rfl rfl
theorem u_St_shareOf_31 : ex cal k_St_shareOf 31 (x0 :: x1 :: x2 :: x3 :: x4 :: x5 :: x6 :: aQ r :: ls) (st) h = ex cal k_St_shareOf 33 (x0 :: x1 :: x2 :: x3 :: x4 :: x5 :: x6 :: aQ r :: ls) (aQ r :: st) h := ex_st cal (s := s_ald 7 33) rfl rfl
theorem u_St_shareOf_33 : ex cal k_St_shareOf 33 (ls) (aQ (some a) :: st) h = gO h a 3 (ex cal k_St_shareOf 36 (ls) (gf h a 1 :: st) h) := e_gf cal rfl
theorem u_St_shareOf_36 (hl : Nat.ble st.length 4 = true) : ex cal k_St_shareOf 36 (ls) (aI z0 :: aQ (some a) :: st) h = gO h a 7 (kk cal k_St_shareOf 39 ls st (cal M_St_changeOf [aQ (some a), aI z0] h)) := e_callV cal (ci := 7) (as := [aI z0]) rfl (by decide) rfl (Nat.le_of_ble_eq_true hl)
theorem u_St_shareOf_39 (hx : aNl x7 = true) : ex cal k_St_shareOf 39 (x0 :: x1 :: x2 :: x3 :: x4 :: x5 :: x6 :: x7 :: y :: ls) (aQ r :: st) h = ex cal k_St_shareOf 41 (x0 :: x1 :: x2 :: x3 :: x4 :: x5 :: x6 :: x7 :: aQ r :: ls) (st) h := e_ast (ls := x0 :: x1 :: x2 :: x3 :: x4 :: x5 :: x6 :: x7 :: y :: ls) (k := 8) rfl hx (by simp only [List.length_cons]; omega)
theorem u_St_shareOf_41 : ex cal k_St_shareOf 41 (x0 :: x1 :: x2 :: aI v :: ls) (st) h = ex cal k_St_shareOf 42 (x0 :: x1 :: x2 :: aI v :: ls) (aI v :: st) h := ex_st cal (s := s_ild 3 42) rfl rfl
theorem u_St_shareOf_42 : ex cal k_St_shareOf 42 (x0 :: x1 :: x2 :: x3 :: x4 :: x5 :: x6 :: x7 :: aQ r :: ls) (st) h = ex cal k_St_shareOf 44 (x0 :: x1 :: x2 :: x3 :: x4 :: x5 :: x6 :: x7 :: aQ r :: ls) (aQ r :: st) h := ex_st cal (s := s_ald 8 44) rfl rfl
theorem u_St_shareOf_44 : ex cal k_St_shareOf 44 (ls) (aQ r :: st) h = if r = none then ex cal k_St_shareOf 47 (ls) (st) h else ex cal k_St_shareOf 51 (ls) (st) h := e_nul cal rfl
theorem u_St_shareOf_47 : ex cal k_St_shareOf 47 (ls) (st) h = ex cal k_St_shareOf 48 (ls) (aI 0 :: st) h := e_push cal rfl
theorem u_St_shareOf_48 : ex cal k_St_shareOf 48 (ls) (st) h = ex cal k_St_shareOf 57 (ls) (st) h := ex_st cal (s := s_go 57) rfl rfl
theorem u_St_shareOf_51 : ex cal k_St_shareOf 51 (x0 :: x1 :: x2 :: x3 :: x4 :: x5 :: x6 :: x7 :: aQ r :: ls) (st) h = ex cal k_St_shareOf 53 (x0 :: x1 :: x2 :: x3 :: x4 :: x5 :: x6 :: x7 :: aQ r :: ls) (aQ r :: st) h := ex_st cal (s := s_ald 8 53) rfl rfl
theorem u_St_shareOf_53 : ex cal k_St_shareOf 53 (x0 :: aI v :: ls) (st) h = ex cal k_St_shareOf 54 (x0 :: aI v :: ls) (aI v :: st) h := ex_st cal (s := s_ild 1 54) rfl rfl
theorem u_St_shareOf_54 (hl : Nat.ble st.length 4 = true) : ex cal k_St_shareOf 54 (ls) (aI z0 :: aQ (some a) :: st) h = gO h a 1 (kk cal k_St_shareOf 57 ls st (cal M_Ch_shareOf [aQ (some a), aI z0] h)) := e_callV cal (ci := 1) (as := [aI z0]) rfl (by decide) rfl (Nat.le_of_ble_eq_true hl)
theorem u_St_shareOf_57 : ex cal k_St_shareOf 57 (ls) (aI j :: aI i :: st) h = ex cal k_St_shareOf 58 (ls) (aI (i + j) :: st) h := e_bin cal rfl
theorem u_St_shareOf_58 (hx : aNl x2 = true) : ex cal k_St_shareOf 58 (x0 :: x1 :: x2 :: y :: ls) (aI v :: st) h = ex cal k_St_shareOf 59 (x0 :: x1 :: x2 :: aI v :: ls) (st) h := e_ist (ls := x0 :: x1 :: x2 :: y :: ls) (k := 3) rfl hx (by simp only [List.length_cons]; omega)
theorem u_St_shareOf_59 (hx : aNl x5 = true) : ex cal k_St_shareOf 59 (x0 :: x1 :: x2 :: x3 :: x4 :: x5 :: aI v :: ls) (st) h = ex cal k_St_shareOf 62 (x0 :: x1 :: x2 :: x3 :: x4 :: x5 :: aI (v + 1) :: ls) (st) h := e_inc (ls := x0 :: x1 :: x2 :: x3 :: x4 :: x5 :: aI v :: ls) (k := 6) rfl rfl hx
theorem u_St_shareOf_62 : ex cal k_St_shareOf 62 (ls) (st) h = ex cal k_St_shareOf 16 (ls) (st) h := ex_st cal (s := s_go 16) rfl rfl
theorem u_St_shareOf_65 : ex cal k_St_shareOf 65 (x0 :: x1 :: x2 :: aI v :: ls) (st) h = ex cal k_St_shareOf 66 (x0 :: x1 :: x2 :: aI v :: ls) (aI v :: st) h := ex_st cal (s := s_ild 3 66) rfl rfl
theorem u_St_shareOf_66 : ex cal k_St_shareOf 66 (ls) ([aI v]) h = some (some (aI v), h) := e_ret1 cal rfl
theorem n_St_shareOf (d : Nat) : ev (d + 1) M_St_shareOf [aQ (some a), aI z0, aQ r1] h = ex (ev d) k_St_shareOf 0 [aQ (some a), aI z0, aQ r1, aU, aU, aU, aU, aU, aU] [] h := rfl
theorem u_Te_init_0 : ex cal k_Te_init 0 (aQ r :: ls) (st) h = ex cal k_Te_init 1 (aQ r :: ls) (aQ r :: st) h := ex_st cal (s := s_ald 0 1) rfl rfl
theorem u_Te_init_1 (hl : Nat.ble st.length 4 = true) : ex cal k_Te_init 1 (ls) (aQ (some a) :: st) h = ex cal k_Te_init 4 (ls) (st) h := e_oi cal rfl (Nat.le_of_ble_eq_true hl)
theorem u_Te_init_4 : ex cal k_Te_init 4 (aQ r :: ls) (st) h = ex cal k_Te_init 5 (aQ r :: ls) (aQ r :: st) h := ex_st cal (s := s_ald 0 5) rfl rfl
theorem u_Te_init_5 : ex cal k_Te_init 5 (ls) (st) h = ex cal k_Te_init 7 (ls) (aI 6 :: st) h := e_push cal rfl
theorem u_Te_init_7 (h1 : 0 ≤ i) (h2 : i ≤ 100000) : ex cal k_Te_init 7 (ls) (aI i :: st) h = ex cal k_Te_init 9 (ls) (aQ (some (aSz h)) :: st) (aNew h (.inr (.inl (i.toNat, fun _ => 0))) i.toNat) := e_nai cal rfl h1 h2
theorem u_Te_init_9 : ex cal k_Te_init 9 (ls) (aQ r :: aQ (some a) :: st) h = gO h a 8 (ex cal k_Te_init 12 (ls) (st) (pf h a 0 (aQ r))) := e_pf1 rfl rfl
theorem u_Te_init_12 : ex cal k_Te_init 12 (ls) ([]) h = some (none, h) := e_ret0 cal rfl
theorem n_Te_init (d : Nat) : ev (d + 1) M_Te_init [aQ (some a)] h = ex (ev d) k_Te_init 0 [aQ (some a)] [] h := rfl
theorem u_Te_gather_0 : ex cal k_Te_gather 0 (ls) (st) h = ex cal k_Te_gather 1 (ls) (aI 0 :: st) h := e_push cal rfl
theorem u_Te_gather_1 (hx : aNl x1 = true) : ex cal k_Te_gather 1 (x0 :: x1 :: y :: ls) (aI v :: st) h = ex cal k_Te_gather 2 (x0 :: x1 :: aI v :: ls) (st) h := e_ist (ls := x0 :: x1 :: y :: ls) (k := 2) rfl hx (by simp only [List.length_cons]; omega)
theorem u_Te_gather_2 : ex cal k_Te_gather 2 (x0 :: x1 :: aI v :: ls) (st) h = ex cal k_Te_gather 3 (x0 :: x1 :: aI v :: ls) (aI v :: st) h := ex_st cal (s := s_ild 2 3) rfl rfl
theorem u_Te_gather_3 : ex cal k_Te_gather 3 (ls) (st) h = ex cal k_Te_gather 5 (ls) (aI 6 :: st) h := e_push cal rfl
theorem u_Te_gather_5 : ex cal k_Te_gather 5 (ls) (aI j :: aI i :: st) h = if wr i < wr j then ex cal k_Te_gather 8 (ls) (st) h else ex cal k_Te_gather 72 (ls) (st) h := e_icge cal rfl
theorem u_Te_gather_8 : ex cal k_Te_gather 8 (ls) (st) h = ex cal k_Te_gather 9 (ls) (aI 0 :: st) h := e_push cal rfl
theorem u_Te_gather_9 (hx : aNl x2 = true) : ex cal k_Te_gather 9 (x0 :: x1 :: x2 :: y :: ls) (aI v :: st) h = ex cal k_Te_gather 10 (x0 :: x1 :: x2 :: aI v :: ls) (st) h := e_ist (ls := x0 :: x1 :: x2 :: y :: ls) (k := 3) rfl hx (by simp only [List.length_cons]; omega)
theorem u_Te_gather_10 : ex cal k_Te_gather 10 (ls) (st) h = ex cal k_Te_gather 11 (ls) (aI 0 :: st) h := e_push cal rfl
theorem u_Te_gather_11 (hx : aNl x3 = true) : ex cal k_Te_gather 11 (x0 :: x1 :: x2 :: x3 :: y :: ls) (aI v :: st) h = ex cal k_Te_gather 13 (x0 :: x1 :: x2 :: x3 :: aI v :: ls) (st) h := e_ist (ls := x0 :: x1 :: x2 :: x3 :: y :: ls) (k := 4) rfl hx (by simp only [List.length_cons]; omega)
theorem u_Te_gather_13 : ex cal k_Te_gather 13 (x0 :: x1 :: x2 :: x3 :: aI v :: ls) (st) h = ex cal k_Te_gather 15 (x0 :: x1 :: x2 :: x3 :: aI v :: ls) (aI v :: st) h := ex_st cal (s := s_ild 4 15) rfl rfl
theorem u_Te_gather_15 : ex cal k_Te_gather 15 (x0 :: aQ r :: ls) (st) h = ex cal k_Te_gather 16 (x0 :: aQ r :: ls) (aQ r :: st) h := ex_st cal (s := s_ald 1 16) rfl rfl
theorem u_Te_gather_16 : ex cal k_Te_gather 16 (ls) (aQ (some a) :: st) h = gO h a 7 (ex cal k_Te_gather 19 (ls) (gf h a 0 :: st) h) := e_gf cal rfl
theorem u_Te_gather_19 : ex cal k_Te_gather 19 (ls) (aI j :: aI i :: st) h = if wr i < wr j then ex cal k_Te_gather 22 (ls) (st) h else ex cal k_Te_gather 59 (ls) (st) h := e_icge cal rfl
theorem u_Te_gather_22 : ex cal k_Te_gather 22 (x0 :: aQ r :: ls) (st) h = ex cal k_Te_gather 23 (x0 :: aQ r :: ls) (aQ r :: st) h := ex_st cal (s := s_ald 1 23) rfl rfl
theorem u_Te_gather_23 : ex cal k_Te_gather 23 (x0 :: x1 :: x2 :: x3 :: aI v :: ls) (st) h = ex cal k_Te_gather 25 (x0 :: x1 :: x2 :: x3 :: aI v :: ls) (aI v :: st) h := ex_st cal (s := s_ild 4 25) rfl rfl
theorem u_Te_gather_25 (hl : Nat.ble st.length 4 = true) : ex cal k_Te_gather 25 (ls) (aI z0 :: aQ (some a) :: st) h = gO h a 7 (kk cal k_Te_gather 28 ls st (cal M_St_isHere [aQ (some a), aI z0] h)) := e_callV cal (ci := 7) (as := [aI z0]) rfl (by decide) rfl (Nat.le_of_ble_eq_true hl)
theorem u_Te_gather_28 : ex cal k_Te_gather 28 (ls) (aI i :: st) h = if wr i = 0 then ex cal k_Te_gather 53 (ls) (st) h else ex cal k_Te_gather 31 (ls) (st) h := e_ifeq cal rfl
theorem u_Te_gather_31 : ex cal k_Te_gather 31 (x0 :: aQ r :: ls) (st) h = ex cal k_Te_gather 32 (x0 :: aQ r :: ls) (aQ r :: st) h := ex_st cal (s := s_ald 1 32) rfl rfl
theorem u_Te_gather_32 : ex cal k_Te_gather 32 (x0 :: x1 :: x2 :: x3 :: aI v :: ls) (st) h = ex cal k_Te_gather 34 (x0 :: x1 :: x2 :: x3 :: aI v :: ls) (aI v :: st) h := ex_st cal (s := s_ild 4 34) rfl rfl
theorem u_Te_gather_34 : ex cal k_Te_gather 34 (x0 :: aQ r :: ls) (st) h = ex cal k_Te_gather 35 (x0 :: aQ r :: ls) (aQ r :: st) h := ex_st cal (s := s_ald 1 35) rfl rfl
theorem u_Te_gather_35 : ex cal k_Te_gather 35 (ls) (aQ (some a) :: st) h = gO h a 7 (ex cal k_Te_gather 38 (ls) (gf h a 7 :: st) h) := e_gf cal rfl
theorem u_Te_gather_38 : ex cal k_Te_gather 38 (x0 :: x1 :: aI v :: ls) (st) h = ex cal k_Te_gather 39 (x0 :: x1 :: aI v :: ls) (aI v :: st) h := ex_st cal (s := s_ild 2 39) rfl rfl
theorem u_Te_gather_39 : ex cal k_Te_gather 39 (ls) (aI i :: aQ (some a) :: st) h = gR h a 0 i (ex cal k_Te_gather 40 (ls) (aQ (ra h a (wr i)) :: st) h) := e_ra cal rfl
theorem u_Te_gather_40 (hl : Nat.ble st.length 4 = true) : ex cal k_Te_gather 40 (ls) (aQ r1 :: aI z0 :: aQ (some a) :: st) h = gO h a 7 (kk cal k_Te_gather 43 ls st (cal M_St_isAble [aQ (some a), aI z0, aQ r1] h)) := e_callV cal (ci := 7) (as := [aQ r1, aI z0]) rfl (by decide) rfl (Nat.le_of_ble_eq_true hl)
theorem u_Te_gather_43 : ex cal k_Te_gather 43 (ls) (aI i :: st) h = if wr i = 0 then ex cal k_Te_gather 53 (ls) (st) h else ex cal k_Te_gather 46 (ls) (st) h := e_ifeq cal rfl
theorem u_Te_gather_46 : ex cal k_Te_gather 46 (x0 :: x1 :: x2 :: aI v :: ls) (st) h = ex cal k_Te_gather 47 (x0 :: x1 :: x2 :: aI v :: ls) (aI v :: st) h := ex_st cal (s := s_ild 3 47) rfl rfl
theorem u_Te_gather_47 : ex cal k_Te_gather 47 (ls) (st) h = ex cal k_Te_gather 48 (ls) (aI 1 :: st) h := e_push cal rfl
theorem u_Te_gather_48 : ex cal k_Te_gather 48 (x0 :: x1 :: x2 :: x3 :: aI v :: ls) (st) h = ex cal k_Te_gather 50 (x0 :: x1 :: x2 :: x3 :: aI v :: ls) (aI v :: st) h := ex_st cal (s := s_ild 4 50) rfl rfl
theorem u_Te_gather_50 : ex cal k_Te_gather 50 (ls) (aI j :: aI i :: st) h = ex cal k_Te_gather 51 (ls) (aI (wshl i j) :: st) h := e_bin cal rfl
theorem u_Te_gather_51 : ex cal k_Te_gather 51 (ls) (aI j :: aI i :: st) h = ex cal k_Te_gather 52 (ls) (aI (wor i j) :: st) h := e_bin cal rfl
theorem u_Te_gather_52 (hx : aNl x2 = true) : ex cal k_Te_gather 52 (x0 :: x1 :: x2 :: y :: ls) (aI v :: st) h = ex cal k_Te_gather 53 (x0 :: x1 :: x2 :: aI v :: ls) (st) h := e_ist (ls := x0 :: x1 :: x2 :: y :: ls) (k := 3) rfl hx (by simp only [List.length_cons]; omega)
theorem u_Te_gather_53 (hx : aNl x3 = true) : ex cal k_Te_gather 53 (x0 :: x1 :: x2 :: x3 :: aI v :: ls) (st) h = ex cal k_Te_gather 56 (x0 :: x1 :: x2 :: x3 :: aI (v + 1) :: ls) (st) h := e_inc (ls := x0 :: x1 :: x2 :: x3 :: aI v :: ls) (k := 4) rfl rfl hx
theorem u_Te_gather_56 : ex cal k_Te_gather 56 (ls) (st) h = ex cal k_Te_gather 13 (ls) (st) h := ex_st cal (s := s_go 13) rfl rfl
theorem u_Te_gather_59 : ex cal k_Te_gather 59 (aQ r :: ls) (st) h = ex cal k_Te_gather 60 (aQ r :: ls) (aQ r :: st) h := ex_st cal (s := s_ald 0 60) rfl rfl
theorem u_Te_gather_60 : ex cal k_Te_gather 60 (ls) (aQ (some a) :: st) h = gO h a 8 (ex cal k_Te_gather 63 (ls) (gf h a 0 :: st) h) := e_gf cal rfl
theorem u_Te_gather_63 : ex cal k_Te_gather 63 (x0 :: x1 :: aI v :: ls) (st) h = ex cal k_Te_gather 64 (x0 :: x1 :: aI v :: ls) (aI v :: st) h := ex_st cal (s := s_ild 2 64) rfl rfl
theorem u_Te_gather_64 : ex cal k_Te_gather 64 (x0 :: x1 :: x2 :: aI v :: ls) (st) h = ex cal k_Te_gather 65 (x0 :: x1 :: x2 :: aI v :: ls) (aI v :: st) h := ex_st cal (s := s_ild 3 65) rfl rfl
theorem u_Te_gather_65 (h3 : 3 ≤ a) : ex cal k_Te_gather 65 (ls) (aI v :: aI i :: aQ (some a) :: st) h = gA h a i (ex cal k_Te_gather 66 (ls) (st) (sa h a (upf (ai h a) (wr i) v))) := e_ias cal rfl h3
theorem u_Te_gather_66 (hx : aNl x1 = true) : ex cal k_Te_gather 66 (x0 :: x1 :: aI v :: ls) (st) h = ex cal k_Te_gather 69 (x0 :: x1 :: aI (v + 1) :: ls) (st) h := e_inc (ls := x0 :: x1 :: aI v :: ls) (k := 2) rfl rfl hx
theorem u_Te_gather_69 : ex cal k_Te_gather 69 (ls) (st) h = ex cal k_Te_gather 2 (ls) (st) h := ex_st cal (s := s_go 2) rfl rfl
theorem u_Te_gather_72 : ex cal k_Te_gather 72 (ls) ([]) h = some (none, h) := e_ret0 cal rfl
theorem n_Te_gather (d : Nat) : ev (d + 1) M_Te_gather [aQ (some a), aQ r0] h = ex (ev d) k_Te_gather 0 [aQ (some a), aQ r0, aU, aU, aU] [] h := rfl
theorem u_Te_sizeOf_0 : ex cal k_Te_sizeOf 0 (aQ r :: ls) (st) h = ex cal k_Te_sizeOf 1 (aQ r :: ls) (aQ r :: st) h := ex_st cal (s := s_ald 0 1) rfl rfl
theorem u_Te_sizeOf_1 : ex cal k_Te_sizeOf 1 (ls) (aQ (some a) :: st) h = gO h a 8 (ex cal k_Te_sizeOf 4 (ls) (gf h a 0 :: st) h) := e_gf cal rfl
theorem u_Te_sizeOf_4 : ex cal k_Te_sizeOf 4 (x0 :: aI v :: ls) (st) h = ex cal k_Te_sizeOf 5 (x0 :: aI v :: ls) (aI v :: st) h := ex_st cal (s := s_ild 1 5) rfl rfl
theorem u_Te_sizeOf_5 : ex cal k_Te_sizeOf 5 (ls) (aI i :: aQ (some a) :: st) h = gA h a i (ex cal k_Te_sizeOf 6 (ls) (aI (ai h a (wr i)) :: st) h) := e_ia cal rfl
theorem u_Te_sizeOf_6 (hl : Nat.ble st.length 4 = true) : ex cal k_Te_sizeOf 6 (ls) (aI z0 :: st) h = kk cal k_Te_sizeOf 9 ls st (cal M_J_bitCount [aI z0] h) := e_call cal (as := [aI z0]) rfl rfl (Nat.le_of_ble_eq_true hl)
theorem u_Te_sizeOf_9 : ex cal k_Te_sizeOf 9 (ls) ([aI v]) h = some (some (aI v), h) := e_ret1 cal rfl
theorem n_Te_sizeOf (d : Nat) : ev (d + 1) M_Te_sizeOf [aQ (some a), aI z0] h = ex (ev d) k_Te_sizeOf 0 [aQ (some a), aI z0] [] h := rfl
theorem u_Te_lostWithout_0 : ex cal k_Te_lostWithout 0 (ls) (st) h = ex cal k_Te_lostWithout 1 (ls) (aI 0 :: st) h := e_push cal rfl
theorem u_Te_lostWithout_1 (hx : aNl x1 = true) : ex cal k_Te_lostWithout 1 (x0 :: x1 :: y :: ls) (aI v :: st) h = ex cal k_Te_lostWithout 2 (x0 :: x1 :: aI v :: ls) (st) h := e_ist (ls := x0 :: x1 :: y :: ls) (k := 2) rfl hx (by simp only [List.length_cons]; omega)
theorem u_Te_lostWithout_2 : ex cal k_Te_lostWithout 2 (ls) (st) h = ex cal k_Te_lostWithout 3 (ls) (aI 0 :: st) h := e_push cal rfl
theorem u_Te_lostWithout_3 (hx : aNl x2 = true) : ex cal k_Te_lostWithout 3 (x0 :: x1 :: x2 :: y :: ls) (aI v :: st) h = ex cal k_Te_lostWithout 4 (x0 :: x1 :: x2 :: aI v :: ls) (st) h := e_ist (ls := x0 :: x1 :: x2 :: y :: ls) (k := 3) rfl hx (by simp only [List.length_cons]; omega)
theorem u_Te_lostWithout_4 : ex cal k_Te_lostWithout 4 (x0 :: x1 :: x2 :: aI v :: ls) (st) h = ex cal k_Te_lostWithout 5 (x0 :: x1 :: x2 :: aI v :: ls) (aI v :: st) h := ex_st cal (s := s_ild 3 5) rfl rfl
theorem u_Te_lostWithout_5 : ex cal k_Te_lostWithout 5 (ls) (st) h = ex cal k_Te_lostWithout 7 (ls) (aI 6 :: st) h := e_push cal rfl
theorem u_Te_lostWithout_7 : ex cal k_Te_lostWithout 7 (ls) (aI j :: aI i :: st) h = if wr i < wr j then ex cal k_Te_lostWithout 10 (ls) (st) h else ex cal k_Te_lostWithout 35 (ls) (st) h := e_icge cal rfl
theorem u_Te_lostWithout_10 : ex cal k_Te_lostWithout 10 (aQ r :: ls) (st) h = ex cal k_Te_lostWithout 11 (aQ r :: ls) (aQ r :: st) h := ex_st cal (s := s_ald 0 11) rfl rfl
theorem u_Te_lostWithout_11 : ex cal k_Te_lostWithout 11 (ls) (aQ (some a) :: st) h = gO h a 8 (ex cal k_Te_lostWithout 14 (ls) (gf h a 0 :: st) h) := e_gf cal rfl
theorem u_Te_lostWithout_14 : ex cal k_Te_lostWithout 14 (x0 :: x1 :: x2 :: aI v :: ls) (st) h = ex cal k_Te_lostWithout 15 (x0 :: x1 :: x2 :: aI v :: ls) (aI v :: st) h := ex_st cal (s := s_ild 3 15) rfl rfl
theorem u_Te_lostWithout_15 : ex cal k_Te_lostWithout 15 (ls) (aI i :: aQ (some a) :: st) h = gA h a i (ex cal k_Te_lostWithout 16 (ls) (aI (ai h a (wr i)) :: st) h) := e_ia cal rfl
theorem u_Te_lostWithout_16 : ex cal k_Te_lostWithout 16 (x0 :: aI v :: ls) (st) h = ex cal k_Te_lostWithout 17 (x0 :: aI v :: ls) (aI v :: st) h := ex_st cal (s := s_ild 1 17) rfl rfl
theorem u_Te_lostWithout_17 : ex cal k_Te_lostWithout 17 (ls) (st) h = ex cal k_Te_lostWithout 18 (ls) (aI (-1) :: st) h := e_push cal rfl
theorem u_Te_lostWithout_18 : ex cal k_Te_lostWithout 18 (ls) (aI j :: aI i :: st) h = ex cal k_Te_lostWithout 19 (ls) (aI (wxor i j) :: st) h := e_bin cal rfl
theorem u_Te_lostWithout_19 : ex cal k_Te_lostWithout 19 (ls) (aI j :: aI i :: st) h = ex cal k_Te_lostWithout 20 (ls) (aI (wand i j) :: st) h := e_bin cal rfl
theorem u_Te_lostWithout_20 : ex cal k_Te_lostWithout 20 (ls) (aI i :: st) h = if wr i = 0 then ex cal k_Te_lostWithout 23 (ls) (st) h else ex cal k_Te_lostWithout 29 (ls) (st) h := e_ifne cal rfl
theorem u_Te_lostWithout_23 : ex cal k_Te_lostWithout 23 (x0 :: x1 :: aI v :: ls) (st) h = ex cal k_Te_lostWithout 24 (x0 :: x1 :: aI v :: ls) (aI v :: st) h := ex_st cal (s := s_ild 2 24) rfl rfl
theorem u_Te_lostWithout_24 : ex cal k_Te_lostWithout 24 (ls) (st) h = ex cal k_Te_lostWithout 25 (ls) (aI 1 :: st) h := e_push cal rfl
theorem u_Te_lostWithout_25 : ex cal k_Te_lostWithout 25 (x0 :: x1 :: x2 :: aI v :: ls) (st) h = ex cal k_Te_lostWithout 26 (x0 :: x1 :: x2 :: aI v :: ls) (aI v :: st) h := ex_st cal (s := s_ild 3 26) rfl rfl
theorem u_Te_lostWithout_26 : ex cal k_Te_lostWithout 26 (ls) (aI j :: aI i :: st) h = ex cal k_Te_lostWithout 27 (ls) (aI (wshl i j) :: st) h := e_bin cal rfl
theorem u_Te_lostWithout_27 : ex cal k_Te_lostWithout 27 (ls) (aI j :: aI i :: st) h = ex cal k_Te_lostWithout 28 (ls) (aI (wor i j) :: st) h := e_bin cal rfl
theorem u_Te_lostWithout_28 (hx : aNl x1 = true) : ex cal k_Te_lostWithout 28 (x0 :: x1 :: y :: ls) (aI v :: st) h = ex cal k_Te_lostWithout 29 (x0 :: x1 :: aI v :: ls) (st) h := e_ist (ls := x0 :: x1 :: y :: ls) (k := 2) rfl hx (by simp only [List.length_cons]; omega)
theorem u_Te_lostWithout_29 (hx : aNl x2 = true) : ex cal k_Te_lostWithout 29 (x0 :: x1 :: x2 :: aI v :: ls) (st) h = ex cal k_Te_lostWithout 32 (x0 :: x1 :: x2 :: aI (v + 1) :: ls) (st) h := e_inc (ls := x0 :: x1 :: x2 :: aI v :: ls) (k := 3) rfl rfl hx
theorem u_Te_lostWithout_32 : ex cal k_Te_lostWithout 32 (ls) (st) h = ex cal k_Te_lostWithout 4 (ls) (st) h := ex_st cal (s := s_go 4) rfl rfl
theorem u_Te_lostWithout_35 : ex cal k_Te_lostWithout 35 (x0 :: x1 :: aI v :: ls) (st) h = ex cal k_Te_lostWithout 36 (x0 :: x1 :: aI v :: ls) (aI v :: st) h := ex_st cal (s := s_ild 2 36) rfl rfl
theorem u_Te_lostWithout_36 : ex cal k_Te_lostWithout 36 (ls) ([aI v]) h = some (some (aI v), h) := e_ret1 cal rfl
theorem n_Te_lostWithout (d : Nat) : ev (d + 1) M_Te_lostWithout [aQ (some a), aI z0] h = ex (ev d) k_Te_lostWithout 0 [aQ (some a), aI z0, aU, aU] [] h := rfl
theorem u_Te_loneAfter_0 : ex cal k_Te_loneAfter 0 (ls) (st) h = ex cal k_Te_loneAfter 1 (ls) (aI 0 :: st) h := e_push cal rfl
theorem u_Te_loneAfter_1 (hx : aNl x1 = true) : ex cal k_Te_loneAfter 1 (x0 :: x1 :: y :: ls) (aI v :: st) h = ex cal k_Te_loneAfter 2 (x0 :: x1 :: aI v :: ls) (st) h := e_ist (ls := x0 :: x1 :: y :: ls) (k := 2) rfl hx (by simp only [List.length_cons]; omega)
theorem u_Te_loneAfter_2 : ex cal k_Te_loneAfter 2 (aQ r :: ls) (st) h = ex cal k_Te_loneAfter 3 (aQ r :: ls) (aQ r :: st) h := ex_st cal (s := s_ald 0 3) rfl rfl
theorem u_Te_loneAfter_3 : ex cal k_Te_loneAfter 3 (ls) (aQ (some a) :: st) h = gO h a 8 (ex cal k_Te_loneAfter 6 (ls) (gf h a 0 :: st) h) := e_gf cal rfl
theorem u_Te_loneAfter_6 (hx : aNl x2 = true) : ex cal k_Te_loneAfter 6 (x0 :: x1 :: x2 :: y :: ls) (aQ r :: st) h = ex cal k_Te_loneAfter 7 (x0 :: x1 :: x2 :: aQ r :: ls) (st) h := e_ast (ls := x0 :: x1 :: x2 :: y :: ls) (k := 3) rfl hx (by simp only [List.length_cons]; omega)
theorem u_Te_loneAfter_7 : ex cal k_Te_loneAfter 7 (x0 :: x1 :: x2 :: aQ r :: ls) (st) h = ex cal k_Te_loneAfter 8 (x0 :: x1 :: x2 :: aQ r :: ls) (aQ r :: st) h := ex_st cal (s := s_ald 3 8) rfl rfl
theorem u_Te_loneAfter_8 : ex cal k_Te_loneAfter 8 (ls) (aQ (some a) :: st) h = gB (isAR h a) (ex cal k_Te_loneAfter 9 (ls) (aI (al h a) :: st) h) := e_len cal rfl
theorem u_Te_loneAfter_9 (hx : aNl x3 = true) : ex cal k_Te_loneAfter 9 (x0 :: x1 :: x2 :: x3 :: y :: ls) (aI v :: st) h = ex cal k_Te_loneAfter 11 (x0 :: x1 :: x2 :: x3 :: aI v :: ls) (st) h := e_ist (ls := x0 :: x1 :: x2 :: x3 :: y :: ls) (k := 4) rfl hx (by simp only [List.length_cons]; omega)
theorem u_Te_loneAfter_11 : ex cal k_Te_loneAfter 11 (ls) (st) h = ex cal k_Te_loneAfter 12 (ls) (aI 0 :: st) h := e_push cal rfl
theorem u_Te_loneAfter_12 (hx : aNl x4 = true) : ex cal k_Te_loneAfter 12 (x0 :: x1 :: x2 :: x3 :: x4 :: y :: ls) (aI v :: st) h = ex cal k_Te_loneAfter 14 (x0 :: x1 :: x2 :: x3 :: x4 :: aI v :: ls) (st) h := e_ist (ls := x0 :: x1 :: x2 :: x3 :: x4 :: y :: ls) (k := 5) rfl hx (by simp only [List.length_cons]; omega)
theorem u_Te_loneAfter_14 : ex cal k_Te_loneAfter 14 (x0 :: x1 :: x2 :: x3 :: x4 :: aI v :: ls) (st) h = ex cal k_Te_loneAfter 16 (x0 :: x1 :: x2 :: x3 :: x4 :: aI v :: ls) (aI v :: st) h := ex_st cal (s := s_ild 5 16) rfl rfl
theorem u_Te_loneAfter_16 : ex cal k_Te_loneAfter 16 (x0 :: x1 :: x2 :: x3 :: aI v :: ls) (st) h = ex cal k_Te_loneAfter 18 (x0 :: x1 :: x2 :: x3 :: aI v :: ls) (aI v :: st) h := ex_st cal (s := s_ild 4 18) rfl rfl
theorem u_Te_loneAfter_18 : ex cal k_Te_loneAfter 18 (ls) (aI j :: aI i :: st) h = if wr i < wr j then ex cal k_Te_loneAfter 21 (ls) (st) h else ex cal k_Te_loneAfter 84 (ls) (st) h := e_icge cal rfl
theorem u_Te_loneAfter_21 : ex cal k_Te_loneAfter 21 (x0 :: x1 :: x2 :: aQ r :: ls) (st) h = ex cal k_Te_loneAfter 22 (x0 :: x1 :: x2 :: aQ r :: ls) (aQ r :: st) h := ex_st cal (s := s_ald 3 22) rfl rfl
theorem u_Te_loneAfter_22 : ex cal k_Te_loneAfter 22 (x0 :: x1 :: x2 :: x3 :: x4 :: aI v :: ls) (st) h = ex cal k_Te_loneAfter 24 (x0 :: x1 :: x2 :: x3 :: x4 :: aI v :: ls) (aI v :: st) h := ex_st cal (s := s_ild 5 24) rfl rfl
theorem u_Te_loneAfter_24 : ex cal k_Te_loneAfter 24 (ls) (aI i :: aQ (some a) :: st) h = gA h a i (ex cal k_Te_loneAfter 25 (ls) (aI (ai h a (wr i)) :: st) h) := e_ia cal rfl
theorem u_Te_loneAfter_25 (hx : aNl x5 = true) : ex cal k_Te_loneAfter 25 (x0 :: x1 :: x2 :: x3 :: x4 :: x5 :: y :: ls) (aI v :: st) h = ex cal k_Te_loneAfter 27 (x0 :: x1 :: x2 :: x3 :: x4 :: x5 :: aI v :: ls) (st) h := e_ist (ls := x0 :: x1 :: x2 :: x3 :: x4 :: x5 :: y :: ls) (k := 6) rfl hx (by simp only [List.length_cons]; omega)
theorem u_Te_loneAfter_27 : ex cal k_Te_loneAfter 27 (x0 :: x1 :: x2 :: x3 :: x4 :: x5 :: aI v :: ls) (st) h = ex cal k_Te_loneAfter 29 (x0 :: x1 :: x2 :: x3 :: x4 :: x5 :: aI v :: ls) (aI v :: st) h := ex_st cal (s := s_ild 6 29) rfl rfl
theorem u_Te_loneAfter_29 : ex cal k_Te_loneAfter 29 (ls) (aI i :: st) h = if wr i = 0 then ex cal k_Te_loneAfter 45 (ls) (st) h else ex cal k_Te_loneAfter 32 (ls) (st) h := e_ifeq cal rfl
theorem u_Te_loneAfter_32 : ex cal k_Te_loneAfter 32 (x0 :: x1 :: x2 :: x3 :: x4 :: x5 :: aI v :: ls) (st) h = ex cal k_Te_loneAfter 34 (x0 :: x1 :: x2 :: x3 :: x4 :: x5 :: aI v :: ls) (aI v :: st) h := ex_st cal (s := s_ild 6 34) rfl rfl
theorem u_Te_loneAfter_34 (hl : Nat.ble st.length 4 = true) : ex cal k_Te_loneAfter 34 (ls) (aI z0 :: st) h = kk cal k_Te_loneAfter 37 ls st (cal M_J_bitCount [aI z0] h) := e_call cal (as := [aI z0]) rfl rfl (Nat.le_of_ble_eq_true hl)
theorem u_Te_loneAfter_37 : ex cal k_Te_loneAfter 37 (ls) (st) h = ex cal k_Te_loneAfter 38 (ls) (aI 3 :: st) h := e_push cal rfl
theorem u_Te_loneAfter_38 : ex cal k_Te_loneAfter 38 (ls) (aI j :: aI i :: st) h = if wr j < wr i then ex cal k_Te_loneAfter 45 (ls) (st) h else ex cal k_Te_loneAfter 41 (ls) (st) h := e_icgt cal rfl
theorem u_Te_loneAfter_41 : ex cal k_Te_loneAfter 41 (ls) (st) h = ex cal k_Te_loneAfter 42 (ls) (aI 1 :: st) h := e_push cal rfl
theorem u_Te_loneAfter_42 : ex cal k_Te_loneAfter 42 (ls) (st) h = ex cal k_Te_loneAfter 46 (ls) (st) h := ex_st cal (s := s_go 46) rfl rfl
theorem u_Te_loneAfter_45 : ex cal k_Te_loneAfter 45 (ls) (st) h = ex cal k_Te_loneAfter 46 (ls) (aI 0 :: st) h := e_push cal rfl
theorem u_Te_loneAfter_46 (hx : aNl x6 = true) : ex cal k_Te_loneAfter 46 (x0 :: x1 :: x2 :: x3 :: x4 :: x5 :: x6 :: y :: ls) (aI v :: st) h = ex cal k_Te_loneAfter 48 (x0 :: x1 :: x2 :: x3 :: x4 :: x5 :: x6 :: aI v :: ls) (st) h := e_ist (ls := x0 :: x1 :: x2 :: x3 :: x4 :: x5 :: x6 :: y :: ls) (k := 7) rfl hx (by simp only [List.length_cons]; omega)
theorem u_Te_loneAfter_48 : ex cal k_Te_loneAfter 48 (x0 :: x1 :: x2 :: x3 :: x4 :: x5 :: x6 :: aI v :: ls) (st) h = ex cal k_Te_loneAfter 50 (x0 :: x1 :: x2 :: x3 :: x4 :: x5 :: x6 :: aI v :: ls) (aI v :: st) h := ex_st cal (s := s_ild 7 50) rfl rfl
theorem u_Te_loneAfter_50 : ex cal k_Te_loneAfter 50 (ls) (aI i :: st) h = if wr i = 0 then ex cal k_Te_loneAfter 78 (ls) (st) h else ex cal k_Te_loneAfter 53 (ls) (st) h := e_ifeq cal rfl
theorem u_Te_loneAfter_53 : ex cal k_Te_loneAfter 53 (x0 :: aI v :: ls) (st) h = ex cal k_Te_loneAfter 54 (x0 :: aI v :: ls) (aI v :: st) h := ex_st cal (s := s_ild 1 54) rfl rfl
theorem u_Te_loneAfter_54 : ex cal k_Te_loneAfter 54 (x0 :: x1 :: x2 :: x3 :: x4 :: x5 :: aI v :: ls) (st) h = ex cal k_Te_loneAfter 56 (x0 :: x1 :: x2 :: x3 :: x4 :: x5 :: aI v :: ls) (aI v :: st) h := ex_st cal (s := s_ild 6 56) rfl rfl
theorem u_Te_loneAfter_56 (hl : Nat.ble st.length 4 = true) : ex cal k_Te_loneAfter 56 (ls) (aI z1 :: aI z0 :: st) h = kk cal k_Te_loneAfter 59 ls st (cal M_Te_isAhead [aI z0, aI z1] h) := e_call cal (as := [aI z1, aI z0]) rfl rfl (Nat.le_of_ble_eq_true hl)
theorem u_Te_loneAfter_59 : ex cal k_Te_loneAfter 59 (ls) (aI i :: st) h = if wr i = 0 then ex cal k_Te_loneAfter 78 (ls) (st) h else ex cal k_Te_loneAfter 62 (ls) (st) h := e_ifeq cal rfl
theorem u_Te_loneAfter_62 : ex cal k_Te_loneAfter 62 (x0 :: x1 :: aI v :: ls) (st) h = ex cal k_Te_loneAfter 63 (x0 :: x1 :: aI v :: ls) (aI v :: st) h := ex_st cal (s := s_ild 2 63) rfl rfl
theorem u_Te_loneAfter_63 : ex cal k_Te_loneAfter 63 (ls) (aI i :: st) h = if wr i = 0 then ex cal k_Te_loneAfter 75 (ls) (st) h else ex cal k_Te_loneAfter 66 (ls) (st) h := e_ifeq cal rfl
theorem u_Te_loneAfter_66 : ex cal k_Te_loneAfter 66 (x0 :: x1 :: x2 :: x3 :: x4 :: x5 :: aI v :: ls) (st) h = ex cal k_Te_loneAfter 68 (x0 :: x1 :: x2 :: x3 :: x4 :: x5 :: aI v :: ls) (aI v :: st) h := ex_st cal (s := s_ild 6 68) rfl rfl
theorem u_Te_loneAfter_68 : ex cal k_Te_loneAfter 68 (x0 :: x1 :: aI v :: ls) (st) h = ex cal k_Te_loneAfter 69 (x0 :: x1 :: aI v :: ls) (aI v :: st) h := ex_st cal (s := s_ild 2 69) rfl rfl
theorem u_Te_loneAfter_69 (hl : Nat.ble st.length 4 = true) : ex cal k_Te_loneAfter 69 (ls) (aI z1 :: aI z0 :: st) h = kk cal k_Te_loneAfter 72 ls st (cal M_Te_isAhead [aI z0, aI z1] h) := e_call cal (as := [aI z1, aI z0]) rfl rfl (Nat.le_of_ble_eq_true hl)
theorem u_Te_loneAfter_72 : ex cal k_Te_loneAfter 72 (ls) (aI i :: st) h = if wr i = 0 then ex cal k_Te_loneAfter 78 (ls) (st) h else ex cal k_Te_loneAfter 75 (ls) (st) h := e_ifeq cal rfl
theorem u_Te_loneAfter_75 : ex cal k_Te_loneAfter 75 (x0 :: x1 :: x2 :: x3 :: x4 :: x5 :: aI v :: ls) (st) h = ex cal k_Te_loneAfter 77 (x0 :: x1 :: x2 :: x3 :: x4 :: x5 :: aI v :: ls) (aI v :: st) h := ex_st cal (s := s_ild 6 77) rfl rfl
theorem u_Te_loneAfter_77 (hx : aNl x1 = true) : ex cal k_Te_loneAfter 77 (x0 :: x1 :: y :: ls) (aI v :: st) h = ex cal k_Te_loneAfter 78 (x0 :: x1 :: aI v :: ls) (st) h := e_ist (ls := x0 :: x1 :: y :: ls) (k := 2) rfl hx (by simp only [List.length_cons]; omega)
theorem u_Te_loneAfter_78 (hx : aNl x4 = true) : ex cal k_Te_loneAfter 78 (x0 :: x1 :: x2 :: x3 :: x4 :: aI v :: ls) (st) h = ex cal k_Te_loneAfter 81 (x0 :: x1 :: x2 :: x3 :: x4 :: aI (v + 1) :: ls) (st) h := e_inc (ls := x0 :: x1 :: x2 :: x3 :: x4 :: aI v :: ls) (k := 5) rfl rfl hx
theorem u_Te_loneAfter_81 : ex cal k_Te_loneAfter 81 (ls) (st) h = ex cal k_Te_loneAfter 14 (ls) (st) h := ex_st cal (s := s_go 14) rfl rfl
theorem u_Te_loneAfter_84 : ex cal k_Te_loneAfter 84 (x0 :: x1 :: aI v :: ls) (st) h = ex cal k_Te_loneAfter 85 (x0 :: x1 :: aI v :: ls) (aI v :: st) h := ex_st cal (s := s_ild 2 85) rfl rfl
theorem u_Te_loneAfter_85 : ex cal k_Te_loneAfter 85 (ls) ([aI v]) h = some (some (aI v), h) := e_ret1 cal rfl
theorem n_Te_loneAfter (d : Nat) : ev (d + 1) M_Te_loneAfter [aQ (some a), aI z0] h = ex (ev d) k_Te_loneAfter 0 [aQ (some a), aI z0, aU, aU, aU, aU, aU, aU] [] h := rfl
theorem u_Te_fewest_0 : ex cal k_Te_fewest 0 (x0 :: aI v :: ls) (st) h = ex cal k_Te_fewest 1 (x0 :: aI v :: ls) (aI v :: st) h := ex_st cal (s := s_ild 1 1) rfl rfl
theorem u_Te_fewest_1 (hx : aNl x1 = true) : ex cal k_Te_fewest 1 (x0 :: x1 :: y :: ls) (aI v :: st) h = ex cal k_Te_fewest 2 (x0 :: x1 :: aI v :: ls) (st) h := e_ist (ls := x0 :: x1 :: y :: ls) (k := 2) rfl hx (by simp only [List.length_cons]; omega)
theorem u_Te_fewest_2 : ex cal k_Te_fewest 2 (ls) (st) h = ex cal k_Te_fewest 3 (ls) (aI 0 :: st) h := e_push cal rfl
theorem u_Te_fewest_3 (hx : aNl x2 = true) : ex cal k_Te_fewest 3 (x0 :: x1 :: x2 :: y :: ls) (aI v :: st) h = ex cal k_Te_fewest 4 (x0 :: x1 :: x2 :: aI v :: ls) (st) h := e_ist (ls := x0 :: x1 :: x2 :: y :: ls) (k := 3) rfl hx (by simp only [List.length_cons]; omega)
theorem u_Te_fewest_4 : ex cal k_Te_fewest 4 (x0 :: x1 :: x2 :: aI v :: ls) (st) h = ex cal k_Te_fewest 5 (x0 :: x1 :: x2 :: aI v :: ls) (aI v :: st) h := ex_st cal (s := s_ild 3 5) rfl rfl
theorem u_Te_fewest_5 : ex cal k_Te_fewest 5 (x0 :: aI v :: ls) (st) h = ex cal k_Te_fewest 6 (x0 :: aI v :: ls) (aI v :: st) h := ex_st cal (s := s_ild 1 6) rfl rfl
theorem u_Te_fewest_6 : ex cal k_Te_fewest 6 (ls) (aI j :: aI i :: st) h = if wr j < wr i then ex cal k_Te_fewest 41 (ls) (st) h else ex cal k_Te_fewest 9 (ls) (st) h := e_icgt cal rfl
theorem u_Te_fewest_9 : ex cal k_Te_fewest 9 (x0 :: x1 :: x2 :: aI v :: ls) (st) h = ex cal k_Te_fewest 10 (x0 :: x1 :: x2 :: aI v :: ls) (aI v :: st) h := ex_st cal (s := s_ild 3 10) rfl rfl
theorem u_Te_fewest_10 : ex cal k_Te_fewest 10 (x0 :: aI v :: ls) (st) h = ex cal k_Te_fewest 11 (x0 :: aI v :: ls) (aI v :: st) h := ex_st cal (s := s_ild 1 11) rfl rfl
theorem u_Te_fewest_11 : ex cal k_Te_fewest 11 (ls) (st) h = ex cal k_Te_fewest 12 (ls) (aI (-1) :: st) h := e_push cal rfl
theorem u_Te_fewest_12 : ex cal k_Te_fewest 12 (ls) (aI j :: aI i :: st) h = ex cal k_Te_fewest 13 (ls) (aI (wxor i j) :: st) h := e_bin cal rfl
theorem u_Te_fewest_13 : ex cal k_Te_fewest 13 (ls) (aI j :: aI i :: st) h = ex cal k_Te_fewest 14 (ls) (aI (wand i j) :: st) h := e_bin cal rfl
theorem u_Te_fewest_14 : ex cal k_Te_fewest 14 (ls) (aI i :: st) h = if wr i = 0 then ex cal k_Te_fewest 17 (ls) (st) h else ex cal k_Te_fewest 35 (ls) (st) h := e_ifne cal rfl
theorem u_Te_fewest_17 : ex cal k_Te_fewest 17 (x0 :: x1 :: x2 :: aI v :: ls) (st) h = ex cal k_Te_fewest 18 (x0 :: x1 :: x2 :: aI v :: ls) (aI v :: st) h := ex_st cal (s := s_ild 3 18) rfl rfl
theorem u_Te_fewest_18 : ex cal k_Te_fewest 18 (x0 :: x1 :: aI v :: ls) (st) h = ex cal k_Te_fewest 19 (x0 :: x1 :: aI v :: ls) (aI v :: st) h := ex_st cal (s := s_ild 2 19) rfl rfl
theorem u_Te_fewest_19 (hl : Nat.ble st.length 4 = true) : ex cal k_Te_fewest 19 (ls) (aI z1 :: aI z0 :: st) h = kk cal k_Te_fewest 22 ls st (cal M_Te_isAhead [aI z0, aI z1] h) := e_call cal (as := [aI z1, aI z0]) rfl rfl (Nat.le_of_ble_eq_true hl)
theorem u_Te_fewest_22 : ex cal k_Te_fewest 22 (ls) (aI i :: st) h = if wr i = 0 then ex cal k_Te_fewest 35 (ls) (st) h else ex cal k_Te_fewest 25 (ls) (st) h := e_ifeq cal rfl
theorem u_Te_fewest_25 : ex cal k_Te_fewest 25 (aQ r :: ls) (st) h = ex cal k_Te_fewest 26 (aQ r :: ls) (aQ r :: st) h := ex_st cal (s := s_ald 0 26) rfl rfl
theorem u_Te_fewest_26 : ex cal k_Te_fewest 26 (x0 :: x1 :: x2 :: aI v :: ls) (st) h = ex cal k_Te_fewest 27 (x0 :: x1 :: x2 :: aI v :: ls) (aI v :: st) h := ex_st cal (s := s_ild 3 27) rfl rfl
theorem u_Te_fewest_27 (hl : Nat.ble st.length 4 = true) : ex cal k_Te_fewest 27 (ls) (aI z0 :: aQ (some a) :: st) h = gO h a 8 (kk cal k_Te_fewest 30 ls st (cal M_Te_meetsAll [aQ (some a), aI z0] h)) := e_callV cal (ci := 8) (as := [aI z0]) rfl (by decide) rfl (Nat.le_of_ble_eq_true hl)
theorem u_Te_fewest_30 : ex cal k_Te_fewest 30 (ls) (aI i :: st) h = if wr i = 0 then ex cal k_Te_fewest 35 (ls) (st) h else ex cal k_Te_fewest 33 (ls) (st) h := e_ifeq cal rfl
theorem u_Te_fewest_33 : ex cal k_Te_fewest 33 (x0 :: x1 :: x2 :: aI v :: ls) (st) h = ex cal k_Te_fewest 34 (x0 :: x1 :: x2 :: aI v :: ls) (aI v :: st) h := ex_st cal (s := s_ild 3 34) rfl rfl
theorem u_Te_fewest_34 (hx : aNl x1 = true) : ex cal k_Te_fewest 34 (x0 :: x1 :: y :: ls) (aI v :: st) h = ex cal k_Te_fewest 35 (x0 :: x1 :: aI v :: ls) (st) h := e_ist (ls := x0 :: x1 :: y :: ls) (k := 2) rfl hx (by simp only [List.length_cons]; omega)
theorem u_Te_fewest_35 (hx : aNl x2 = true) : ex cal k_Te_fewest 35 (x0 :: x1 :: x2 :: aI v :: ls) (st) h = ex cal k_Te_fewest 38 (x0 :: x1 :: x2 :: aI (v + 1) :: ls) (st) h := e_inc (ls := x0 :: x1 :: x2 :: aI v :: ls) (k := 3) rfl rfl hx
theorem u_Te_fewest_38 : ex cal k_Te_fewest 38 (ls) (st) h = ex cal k_Te_fewest 4 (ls) (st) h := ex_st cal (s := s_go 4) rfl rfl
theorem u_Te_fewest_41 : ex cal k_Te_fewest 41 (x0 :: x1 :: aI v :: ls) (st) h = ex cal k_Te_fewest 42 (x0 :: x1 :: aI v :: ls) (aI v :: st) h := ex_st cal (s := s_ild 2 42) rfl rfl
theorem u_Te_fewest_42 : ex cal k_Te_fewest 42 (ls) ([aI v]) h = some (some (aI v), h) := e_ret1 cal rfl
theorem n_Te_fewest (d : Nat) : ev (d + 1) M_Te_fewest [aQ (some a), aI z0] h = ex (ev d) k_Te_fewest 0 [aQ (some a), aI z0, aU, aU] [] h := rfl
theorem u_Te_meetsAll_0 : ex cal k_Te_meetsAll 0 (aQ r :: ls) (st) h = ex cal k_Te_meetsAll 1 (aQ r :: ls) (aQ r :: st) h := ex_st cal (s := s_ald 0 1) rfl rfl
theorem u_Te_meetsAll_1 : ex cal k_Te_meetsAll 1 (ls) (aQ (some a) :: st) h = gO h a 8 (ex cal k_Te_meetsAll 4 (ls) (gf h a 0 :: st) h) := e_gf cal rfl
theorem u_Te_meetsAll_4 (hx : aNl x1 = true) : ex cal k_Te_meetsAll 4 (x0 :: x1 :: y :: ls) (aQ r :: st) h = ex cal k_Te_meetsAll 5 (x0 :: x1 :: aQ r :: ls) (st) h := e_ast (ls := x0 :: x1 :: y :: ls) (k := 2) rfl hx (by simp only [List.length_cons]; omega)
theorem u_Te_meetsAll_5 : ex cal k_Te_meetsAll 5 (x0 :: x1 :: aQ r :: ls) (st) h = ex cal k_Te_meetsAll 6 (x0 :: x1 :: aQ r :: ls) (aQ r :: st) h := ex_st cal (s := s_ald 2 6) rfl rfl
theorem u_Te_meetsAll_6 : ex cal k_Te_meetsAll 6 (ls) (aQ (some a) :: st) h = gB (isAR h a) (ex cal k_Te_meetsAll 7 (ls) (aI (al h a) :: st) h) := e_len cal rfl
theorem u_Te_meetsAll_7 (hx : aNl x2 = true) : ex cal k_Te_meetsAll 7 (x0 :: x1 :: x2 :: y :: ls) (aI v :: st) h = ex cal k_Te_meetsAll 8 (x0 :: x1 :: x2 :: aI v :: ls) (st) h := e_ist (ls := x0 :: x1 :: x2 :: y :: ls) (k := 3) rfl hx (by simp only [List.length_cons]; omega)
theorem u_Te_meetsAll_8 : ex cal k_Te_meetsAll 8 (ls) (st) h = ex cal k_Te_meetsAll 9 (ls) (aI 0 :: st) h := e_push cal rfl
theorem u_Te_meetsAll_9 (hx : aNl x3 = true) : ex cal k_Te_meetsAll 9 (x0 :: x1 :: x2 :: x3 :: y :: ls) (aI v :: st) h = ex cal k_Te_meetsAll 11 (x0 :: x1 :: x2 :: x3 :: aI v :: ls) (st) h := e_ist (ls := x0 :: x1 :: x2 :: x3 :: y :: ls) (k := 4) rfl hx (by simp only [List.length_cons]; omega)
theorem u_Te_meetsAll_11 : ex cal k_Te_meetsAll 11 (x0 :: x1 :: x2 :: x3 :: aI v :: ls) (st) h = ex cal k_Te_meetsAll 13 (x0 :: x1 :: x2 :: x3 :: aI v :: ls) (aI v :: st) h := ex_st cal (s := s_ild 4 13) rfl rfl
theorem u_Te_meetsAll_13 : ex cal k_Te_meetsAll 13 (x0 :: x1 :: x2 :: aI v :: ls) (st) h = ex cal k_Te_meetsAll 14 (x0 :: x1 :: x2 :: aI v :: ls) (aI v :: st) h := ex_st cal (s := s_ild 3 14) rfl rfl
theorem u_Te_meetsAll_14 : ex cal k_Te_meetsAll 14 (ls) (aI j :: aI i :: st) h = if wr i < wr j then ex cal k_Te_meetsAll 17 (ls) (st) h else ex cal k_Te_meetsAll 43 (ls) (st) h := e_icge cal rfl
theorem u_Te_meetsAll_17 : ex cal k_Te_meetsAll 17 (x0 :: x1 :: aQ r :: ls) (st) h = ex cal k_Te_meetsAll 18 (x0 :: x1 :: aQ r :: ls) (aQ r :: st) h := ex_st cal (s := s_ald 2 18) rfl rfl
theorem u_Te_meetsAll_18 : ex cal k_Te_meetsAll 18 (x0 :: x1 :: x2 :: x3 :: aI v :: ls) (st) h = ex cal k_Te_meetsAll 20 (x0 :: x1 :: x2 :: x3 :: aI v :: ls) (aI v :: st) h := ex_st cal (s := s_ild 4 20) rfl rfl
theorem u_Te_meetsAll_20 : ex cal k_Te_meetsAll 20 (ls) (aI i :: aQ (some a) :: st) h = gA h a i (ex cal k_Te_meetsAll 21 (ls) (aI (ai h a (wr i)) :: st) h) := e_ia cal rfl
theorem u_Te_meetsAll_21 (hx : aNl x4 = true) : ex cal k_Te_meetsAll 21 (x0 :: x1 :: x2 :: x3 :: x4 :: y :: ls) (aI v :: st) h = ex cal k_Te_meetsAll 23 (x0 :: x1 :: x2 :: x3 :: x4 :: aI v :: ls) (st) h := e_ist (ls := x0 :: x1 :: x2 :: x3 :: x4 :: y :: ls) (k := 5) rfl hx (by simp only [List.length_cons]; omega)
theorem u_Te_meetsAll_23 : ex cal k_Te_meetsAll 23 (x0 :: x1 :: x2 :: x3 :: x4 :: aI v :: ls) (st) h = ex cal k_Te_meetsAll 25 (x0 :: x1 :: x2 :: x3 :: x4 :: aI v :: ls) (aI v :: st) h := ex_st cal (s := s_ild 5 25) rfl rfl
theorem u_Te_meetsAll_25 : ex cal k_Te_meetsAll 25 (ls) (aI i :: st) h = if wr i = 0 then ex cal k_Te_meetsAll 37 (ls) (st) h else ex cal k_Te_meetsAll 28 (ls) (st) h := e_ifeq cal rfl
theorem u_Te_meetsAll_28 : ex cal k_Te_meetsAll 28 (x0 :: x1 :: x2 :: x3 :: x4 :: aI v :: ls) (st) h = ex cal k_Te_meetsAll 30 (x0 :: x1 :: x2 :: x3 :: x4 :: aI v :: ls) (aI v :: st) h := ex_st cal (s := s_ild 5 30) rfl rfl
theorem u_Te_meetsAll_30 : ex cal k_Te_meetsAll 30 (x0 :: aI v :: ls) (st) h = ex cal k_Te_meetsAll 31 (x0 :: aI v :: ls) (aI v :: st) h := ex_st cal (s := s_ild 1 31) rfl rfl
theorem u_Te_meetsAll_31 : ex cal k_Te_meetsAll 31 (ls) (aI j :: aI i :: st) h = ex cal k_Te_meetsAll 32 (ls) (aI (wand i j) :: st) h := e_bin cal rfl
theorem u_Te_meetsAll_32 : ex cal k_Te_meetsAll 32 (ls) (aI i :: st) h = if wr i = 0 then ex cal k_Te_meetsAll 35 (ls) (st) h else ex cal k_Te_meetsAll 37 (ls) (st) h := e_ifne cal rfl
theorem u_Te_meetsAll_35 : ex cal k_Te_meetsAll 35 (ls) (st) h = ex cal k_Te_meetsAll 36 (ls) (aI 0 :: st) h := e_push cal rfl
theorem u_Te_meetsAll_36 (hv : v = 0 ∨ v = 1) : ex cal k_Te_meetsAll 36 (ls) ([aI v]) h = some (some (aI v), h) := e_ret22 rfl hv
theorem u_Te_meetsAll_37 (hx : aNl x3 = true) : ex cal k_Te_meetsAll 37 (x0 :: x1 :: x2 :: x3 :: aI v :: ls) (st) h = ex cal k_Te_meetsAll 40 (x0 :: x1 :: x2 :: x3 :: aI (v + 1) :: ls) (st) h := e_inc (ls := x0 :: x1 :: x2 :: x3 :: aI v :: ls) (k := 4) rfl rfl hx
theorem u_Te_meetsAll_40 : ex cal k_Te_meetsAll 40 (ls) (st) h = ex cal k_Te_meetsAll 11 (ls) (st) h := ex_st cal (s := s_go 11) rfl rfl
theorem u_Te_meetsAll_43 : ex cal k_Te_meetsAll 43 (ls) (st) h = ex cal k_Te_meetsAll 44 (ls) (aI 1 :: st) h := e_push cal rfl
theorem u_Te_meetsAll_44 (hv : v = 0 ∨ v = 1) : ex cal k_Te_meetsAll 44 (ls) ([aI v]) h = some (some (aI v), h) := e_ret22 rfl hv
theorem n_Te_meetsAll (d : Nat) : ev (d + 1) M_Te_meetsAll [aQ (some a), aI z0] h = ex (ev d) k_Te_meetsAll 0 [aQ (some a), aI z0, aU, aU, aU, aU] [] h := rfl
theorem u_Te_isAhead_0 : ex cal k_Te_isAhead 0 (aI v :: ls) (st) h = ex cal k_Te_isAhead 1 (aI v :: ls) (aI v :: st) h := ex_st cal (s := s_ild 0 1) rfl rfl
theorem u_Te_isAhead_1 (hl : Nat.ble st.length 4 = true) : ex cal k_Te_isAhead 1 (ls) (aI z0 :: st) h = kk cal k_Te_isAhead 4 ls st (cal M_J_bitCount [aI z0] h) := e_call cal (as := [aI z0]) rfl rfl (Nat.le_of_ble_eq_true hl)
theorem u_Te_isAhead_4 : ex cal k_Te_isAhead 4 (x0 :: aI v :: ls) (st) h = ex cal k_Te_isAhead 5 (x0 :: aI v :: ls) (aI v :: st) h := ex_st cal (s := s_ild 1 5) rfl rfl
theorem u_Te_isAhead_5 (hl : Nat.ble st.length 4 = true) : ex cal k_Te_isAhead 5 (ls) (aI z0 :: st) h = kk cal k_Te_isAhead 8 ls st (cal M_J_bitCount [aI z0] h) := e_call cal (as := [aI z0]) rfl rfl (Nat.le_of_ble_eq_true hl)
theorem u_Te_isAhead_8 : ex cal k_Te_isAhead 8 (ls) (aI j :: aI i :: st) h = ex cal k_Te_isAhead 9 (ls) (aI (i - j) :: st) h := e_bin cal rfl
theorem u_Te_isAhead_9 (hx : aNl x1 = true) : ex cal k_Te_isAhead 9 (x0 :: x1 :: y :: ls) (aI v :: st) h = ex cal k_Te_isAhead 10 (x0 :: x1 :: aI v :: ls) (st) h := e_ist (ls := x0 :: x1 :: y :: ls) (k := 2) rfl hx (by simp only [List.length_cons]; omega)
theorem u_Te_isAhead_10 : ex cal k_Te_isAhead 10 (x0 :: x1 :: aI v :: ls) (st) h = ex cal k_Te_isAhead 11 (x0 :: x1 :: aI v :: ls) (aI v :: st) h := ex_st cal (s := s_ild 2 11) rfl rfl
theorem u_Te_isAhead_11 : ex cal k_Te_isAhead 11 (ls) (aI i :: st) h = if wr i < 0 then ex cal k_Te_isAhead 23 (ls) (st) h else ex cal k_Te_isAhead 14 (ls) (st) h := e_iflt cal rfl
theorem u_Te_isAhead_14 : ex cal k_Te_isAhead 14 (x0 :: x1 :: aI v :: ls) (st) h = ex cal k_Te_isAhead 15 (x0 :: x1 :: aI v :: ls) (aI v :: st) h := ex_st cal (s := s_ild 2 15) rfl rfl
theorem u_Te_isAhead_15 : ex cal k_Te_isAhead 15 (ls) (aI i :: st) h = if wr i = 0 then ex cal k_Te_isAhead 18 (ls) (st) h else ex cal k_Te_isAhead 27 (ls) (st) h := e_ifne cal rfl
theorem u_Te_isAhead_18 : ex cal k_Te_isAhead 18 (aI v :: ls) (st) h = ex cal k_Te_isAhead 19 (aI v :: ls) (aI v :: st) h := ex_st cal (s := s_ild 0 19) rfl rfl
theorem u_Te_isAhead_19 : ex cal k_Te_isAhead 19 (x0 :: aI v :: ls) (st) h = ex cal k_Te_isAhead 20 (x0 :: aI v :: ls) (aI v :: st) h := ex_st cal (s := s_ild 1 20) rfl rfl
theorem u_Te_isAhead_20 : ex cal k_Te_isAhead 20 (ls) (aI j :: aI i :: st) h = if wr i < wr j then ex cal k_Te_isAhead 23 (ls) (st) h else ex cal k_Te_isAhead 27 (ls) (st) h := e_icge cal rfl
theorem u_Te_isAhead_23 : ex cal k_Te_isAhead 23 (ls) (st) h = ex cal k_Te_isAhead 24 (ls) (aI 1 :: st) h := e_push cal rfl
theorem u_Te_isAhead_24 : ex cal k_Te_isAhead 24 (ls) (st) h = ex cal k_Te_isAhead 28 (ls) (st) h := ex_st cal (s := s_go 28) rfl rfl
theorem u_Te_isAhead_27 : ex cal k_Te_isAhead 27 (ls) (st) h = ex cal k_Te_isAhead 28 (ls) (aI 0 :: st) h := e_push cal rfl
theorem u_Te_isAhead_28 (hv : v = 0 ∨ v = 1) : ex cal k_Te_isAhead 28 (ls) ([aI v]) h = some (some (aI v), h) := e_ret22 rfl hv
theorem n_Te_isAhead (d : Nat) : ev (d + 1) M_Te_isAhead [aI z0, aI z1] h = ex (ev d) k_Te_isAhead 0 [aI z0, aI z1, aU] [] h := rfl
theorem u_C_init_0 : ex cal k_C_init 0 (aQ r :: ls) (st) h = ex cal k_C_init 1 (aQ r :: ls) (aQ r :: st) h := ex_st cal (s := s_ald 0 1) rfl rfl
theorem u_C_init_1 (hl : Nat.ble st.length 4 = true) : ex cal k_C_init 1 (ls) (aQ (some a) :: st) h = ex cal k_C_init 4 (ls) (st) h := e_oi cal rfl (Nat.le_of_ble_eq_true hl)
theorem u_C_init_4 : ex cal k_C_init 4 (aQ r :: ls) (st) h = ex cal k_C_init 5 (aQ r :: ls) (aQ r :: st) h := ex_st cal (s := s_ald 0 5) rfl rfl
theorem u_C_init_5 : ex cal k_C_init 5 (ls) (st) h = ex cal k_C_init 8 (ls) (aQ (some (aSz h)) :: st) (aNew h (.inl (7, aDf 7)) (aNf 7)) := e_new cal rfl
theorem u_C_init_8 (hx : aNl y = true) : ex cal k_C_init 8 (ls) (y :: st) h = ex cal k_C_init 9 (ls) (y :: y :: st) h := e_dup rfl hx
theorem u_C_init_9 (hl : Nat.ble st.length 4 = true) : ex cal k_C_init 9 (ls) (aQ (some a) :: st) h = kk cal k_C_init 12 ls st (cal M_St_init [aQ (some a)] h) := e_callI cal (as := []) rfl rfl (Nat.le_of_ble_eq_true hl)
theorem u_C_init_12 : ex cal k_C_init 12 (ls) (aQ r :: aQ (some a) :: st) h = gO h a 9 (ex cal k_C_init 15 (ls) (st) (pf h a 0 (aQ r))) := e_pf1 rfl rfl
theorem u_C_init_15 : ex cal k_C_init 15 (aQ r :: ls) (st) h = ex cal k_C_init 16 (aQ r :: ls) (aQ r :: st) h := ex_st cal (s := s_ald 0 16) rfl rfl
theorem u_C_init_16 : ex cal k_C_init 16 (ls) (st) h = ex cal k_C_init 19 (ls) (aQ (some (aSz h)) :: st) (aNew h (.inl (7, aDf 7)) (aNf 7)) := e_new cal rfl
theorem u_C_init_19 (hx : aNl y = true) : ex cal k_C_init 19 (ls) (y :: st) h = ex cal k_C_init 20 (ls) (y :: y :: st) h := e_dup rfl hx
theorem u_C_init_20 (hl : Nat.ble st.length 4 = true) : ex cal k_C_init 20 (ls) (aQ (some a) :: st) h = kk cal k_C_init 23 ls st (cal M_St_init [aQ (some a)] h) := e_callI cal (as := []) rfl rfl (Nat.le_of_ble_eq_true hl)
theorem u_C_init_23 : ex cal k_C_init 23 (ls) (aQ r :: aQ (some a) :: st) h = gO h a 9 (ex cal k_C_init 26 (ls) (st) (pf h a 1 (aQ r))) := e_pf1 rfl rfl
theorem u_C_init_26 : ex cal k_C_init 26 (aQ r :: ls) (st) h = ex cal k_C_init 27 (aQ r :: ls) (aQ r :: st) h := ex_st cal (s := s_ald 0 27) rfl rfl
theorem u_C_init_27 : ex cal k_C_init 27 (ls) (st) h = ex cal k_C_init 30 (ls) (aQ (some (aSz h)) :: st) (aNew h (.inl (2, aDf 2)) (aNf 2)) := e_new cal rfl
theorem u_C_init_30 (hx : aNl y = true) : ex cal k_C_init 30 (ls) (y :: st) h = ex cal k_C_init 31 (ls) (y :: y :: st) h := e_dup rfl hx
theorem u_C_init_31 (hl : Nat.ble st.length 4 = true) : ex cal k_C_init 31 (ls) (aQ (some a) :: st) h = kk cal k_C_init 34 ls st (cal M_Kp_init [aQ (some a)] h) := e_callI cal (as := []) rfl rfl (Nat.le_of_ble_eq_true hl)
theorem u_C_init_34 : ex cal k_C_init 34 (ls) (aQ r :: aQ (some a) :: st) h = gO h a 9 (ex cal k_C_init 37 (ls) (st) (pf h a 2 (aQ r))) := e_pf1 rfl rfl
theorem u_C_init_37 : ex cal k_C_init 37 (aQ r :: ls) (st) h = ex cal k_C_init 38 (aQ r :: ls) (aQ r :: st) h := ex_st cal (s := s_ald 0 38) rfl rfl
theorem u_C_init_38 : ex cal k_C_init 38 (ls) (st) h = ex cal k_C_init 41 (ls) (aQ (some (aSz h)) :: st) (aNew h (.inl (8, aDf 8)) (aNf 8)) := e_new cal rfl
theorem u_C_init_41 (hx : aNl y = true) : ex cal k_C_init 41 (ls) (y :: st) h = ex cal k_C_init 42 (ls) (y :: y :: st) h := e_dup rfl hx
theorem u_C_init_42 (hl : Nat.ble st.length 4 = true) : ex cal k_C_init 42 (ls) (aQ (some a) :: st) h = kk cal k_C_init 45 ls st (cal M_Te_init [aQ (some a)] h) := e_callI cal (as := []) rfl rfl (Nat.le_of_ble_eq_true hl)
theorem u_C_init_45 : ex cal k_C_init 45 (ls) (aQ r :: aQ (some a) :: st) h = gO h a 9 (ex cal k_C_init 48 (ls) (st) (pf h a 3 (aQ r))) := e_pf1 rfl rfl
theorem u_C_init_48 : ex cal k_C_init 48 (aQ r :: ls) (st) h = ex cal k_C_init 49 (aQ r :: ls) (aQ r :: st) h := ex_st cal (s := s_ald 0 49) rfl rfl
theorem u_C_init_49 : ex cal k_C_init 49 (ls) (st) h = ex cal k_C_init 52 (ls) (aQ (some (aSz h)) :: st) (aNew h (.inl (5, aDf 5)) (aNf 5)) := e_new cal rfl
theorem u_C_init_52 (hx : aNl y = true) : ex cal k_C_init 52 (ls) (y :: st) h = ex cal k_C_init 53 (ls) (y :: y :: st) h := e_dup rfl hx
theorem u_C_init_53 (hl : Nat.ble st.length 4 = true) : ex cal k_C_init 53 (ls) (aQ (some a) :: st) h = kk cal k_C_init 56 ls st (cal M_Pl_init [aQ (some a)] h) := e_callI cal (as := []) rfl rfl (Nat.le_of_ble_eq_true hl)
theorem u_C_init_56 : ex cal k_C_init 56 (ls) (aQ r :: aQ (some a) :: st) h = gO h a 9 (ex cal k_C_init 59 (ls) (st) (pf h a 4 (aQ r))) := e_pf1 rfl rfl
theorem u_C_init_59 : ex cal k_C_init 59 (aQ r :: ls) (st) h = ex cal k_C_init 60 (aQ r :: ls) (aQ r :: st) h := ex_st cal (s := s_ald 0 60) rfl rfl
theorem u_C_init_60 : ex cal k_C_init 60 (ls) (st) h = ex cal k_C_init 63 (ls) (aQ (some (aSz h)) :: st) (aNew h (.inl (0, aDf 0)) (aNf 0)) := e_new cal rfl
theorem u_C_init_63 (hx : aNl y = true) : ex cal k_C_init 63 (ls) (y :: st) h = ex cal k_C_init 64 (ls) (y :: y :: st) h := e_dup rfl hx
theorem u_C_init_64 (hl : Nat.ble st.length 4 = true) : ex cal k_C_init 64 (ls) (aQ (some a) :: st) h = kk cal k_C_init 67 ls st (cal M_A_init [aQ (some a)] h) := e_callI cal (as := []) rfl rfl (Nat.le_of_ble_eq_true hl)
theorem u_C_init_67 : ex cal k_C_init 67 (ls) (aQ r :: aQ (some a) :: st) h = gO h a 9 (ex cal k_C_init 70 (ls) (st) (pf h a 5 (aQ r))) := e_pf1 rfl rfl
theorem u_C_init_70 : ex cal k_C_init 70 (aQ r :: ls) (st) h = ex cal k_C_init 71 (aQ r :: ls) (aQ r :: st) h := ex_st cal (s := s_ald 0 71) rfl rfl
theorem u_C_init_71 : ex cal k_C_init 71 (ls) (st) h = ex cal k_C_init 72 (ls) (aI 4 :: st) h := e_push cal rfl
theorem u_C_init_72 (h1 : 0 ≤ i) (h2 : i ≤ 100000) : ex cal k_C_init 72 (ls) (aI i :: st) h = ex cal k_C_init 75 (ls) (aQ (some (aSz h)) :: st) (aNew h (.inr (.inr (3, i.toNat, fun _ => none))) i.toNat) := e_nar cal rfl h1 h2
theorem u_C_init_75 : ex cal k_C_init 75 (ls) (aQ r :: aQ (some a) :: st) h = gO h a 9 (ex cal k_C_init 78 (ls) (st) (pf h a 6 (aQ r))) := e_pf1 rfl rfl
theorem u_C_init_78 : ex cal k_C_init 78 (ls) (st) h = ex cal k_C_init 79 (ls) (aI 0 :: st) h := e_push cal rfl
theorem u_C_init_79 (hx : aNl x0 = true) : ex cal k_C_init 79 (x0 :: y :: ls) (aI v :: st) h = ex cal k_C_init 80 (x0 :: aI v :: ls) (st) h := e_ist (ls := x0 :: y :: ls) (k := 1) rfl hx (by simp only [List.length_cons]; omega)
theorem u_C_init_80 : ex cal k_C_init 80 (x0 :: aI v :: ls) (st) h = ex cal k_C_init 81 (x0 :: aI v :: ls) (aI v :: st) h := ex_st cal (s := s_ild 1 81) rfl rfl
theorem u_C_init_81 : ex cal k_C_init 81 (ls) (st) h = ex cal k_C_init 82 (ls) (aI 4 :: st) h := e_push cal rfl
theorem u_C_init_82 : ex cal k_C_init 82 (ls) (aI j :: aI i :: st) h = if wr i < wr j then ex cal k_C_init 85 (ls) (st) h else ex cal k_C_init 104 (ls) (st) h := e_icge cal rfl
theorem u_C_init_85 : ex cal k_C_init 85 (aQ r :: ls) (st) h = ex cal k_C_init 86 (aQ r :: ls) (aQ r :: st) h := ex_st cal (s := s_ald 0 86) rfl rfl
theorem u_C_init_86 : ex cal k_C_init 86 (ls) (aQ (some a) :: st) h = gO h a 9 (ex cal k_C_init 89 (ls) (gf h a 6 :: st) h) := e_gf cal rfl
theorem u_C_init_89 : ex cal k_C_init 89 (x0 :: aI v :: ls) (st) h = ex cal k_C_init 90 (x0 :: aI v :: ls) (aI v :: st) h := ex_st cal (s := s_ild 1 90) rfl rfl
theorem u_C_init_90 : ex cal k_C_init 90 (ls) (st) h = ex cal k_C_init 93 (ls) (aQ (some (aSz h)) :: st) (aNew h (.inl (6, aDf 6)) (aNf 6)) := e_new cal rfl
theorem u_C_init_93 (hx : aNl y = true) : ex cal k_C_init 93 (ls) (y :: st) h = ex cal k_C_init 94 (ls) (y :: y :: st) h := e_dup rfl hx
theorem u_C_init_94 (hl : Nat.ble st.length 4 = true) : ex cal k_C_init 94 (ls) (aQ (some a) :: st) h = kk cal k_C_init 97 ls st (cal M_Sh_init [aQ (some a)] h) := e_callI cal (as := []) rfl rfl (Nat.le_of_ble_eq_true hl)
theorem u_C_init_97 : ex cal k_C_init 97 (ls) (aQ r :: aI i :: aQ (some a) :: st) h = gR h a 3 i (gB (okQ h 3 r) (ex cal k_C_init 98 (ls) (st) (sr h a (upf (ra h a) (wr i) r)))) := e_ras cal rfl
theorem u_C_init_98 (hx : aNl x0 = true) : ex cal k_C_init 98 (x0 :: aI v :: ls) (st) h = ex cal k_C_init 101 (x0 :: aI (v + 1) :: ls) (st) h := e_inc (ls := x0 :: aI v :: ls) (k := 1) rfl rfl hx
theorem u_C_init_101 : ex cal k_C_init 101 (ls) (st) h = ex cal k_C_init 80 (ls) (st) h := ex_st cal (s := s_go 80) rfl rfl
theorem u_C_init_104 : ex cal k_C_init 104 (ls) ([]) h = some (none, h) := e_ret0 cal rfl
theorem n_C_init (d : Nat) : ev (d + 1) M_C_init [aQ (some a)] h = ex (ev d) k_C_init 0 [aQ (some a), aU] [] h := rfl
theorem u_C_person_0 : ex cal k_C_person 0 (x0 :: aI v :: ls) (st) h = ex cal k_C_person 1 (x0 :: aI v :: ls) (aI v :: st) h := ex_st cal (s := s_ild 1 1) rfl rfl
theorem u_C_person_1 : ex cal k_C_person 1 (ls) (aI i :: st) h = if wr i < 0 then ex cal k_C_person 10 (ls) (st) h else ex cal k_C_person 4 (ls) (st) h := e_iflt cal rfl
theorem u_C_person_4 : ex cal k_C_person 4 (x0 :: aI v :: ls) (st) h = ex cal k_C_person 5 (x0 :: aI v :: ls) (aI v :: st) h := ex_st cal (s := s_ild 1 5) rfl rfl
theorem u_C_person_5 : ex cal k_C_person 5 (ls) (st) h = ex cal k_C_person 7 (ls) (aI 99 :: st) h := e_push cal rfl
theorem u_C_person_7 : ex cal k_C_person 7 (ls) (aI j :: aI i :: st) h = if wr j < wr i then ex cal k_C_person 10 (ls) (st) h else ex cal k_C_person 16 (ls) (st) h := e_icle cal rfl
theorem u_C_person_10 : ex cal k_C_person 10 (aQ r :: ls) (st) h = ex cal k_C_person 11 (aQ r :: ls) (aQ r :: st) h := ex_st cal (s := s_ald 0 11) rfl rfl
theorem u_C_person_11 : ex cal k_C_person 11 (ls) (st) h = ex cal k_C_person 12 (ls) (aI 1 :: st) h := e_push cal rfl
theorem u_C_person_12 (hl : Nat.ble st.length 4 = true) : ex cal k_C_person 12 (ls) (aI z0 :: aQ (some a) :: st) h = gO h a 9 (kk cal k_C_person 15 ls st (cal M_C_refused [aQ (some a), aI z0] h)) := e_callV cal (ci := 9) (as := [aI z0]) rfl (by decide) rfl (Nat.le_of_ble_eq_true hl)
theorem u_C_person_15 : ex cal k_C_person 15 (ls) ([aI v]) h = some (some (aI v), h) := e_ret1 cal rfl
theorem u_C_person_16 : ex cal k_C_person 16 (aQ r :: ls) (st) h = ex cal k_C_person 17 (aQ r :: ls) (aQ r :: st) h := ex_st cal (s := s_ald 0 17) rfl rfl
theorem u_C_person_17 : ex cal k_C_person 17 (ls) (aQ (some a) :: st) h = gO h a 9 (ex cal k_C_person 20 (ls) (gf h a 0 :: st) h) := e_gf cal rfl
theorem u_C_person_20 : ex cal k_C_person 20 (ls) (aQ (some a) :: st) h = gO h a 7 (ex cal k_C_person 23 (ls) (gf h a 0 :: st) h) := e_gf cal rfl
theorem u_C_person_23 : ex cal k_C_person 23 (ls) (st) h = ex cal k_C_person 25 (ls) (aI 8 :: st) h := e_push cal rfl
theorem u_C_person_25 : ex cal k_C_person 25 (ls) (aI j :: aI i :: st) h = if wr i < wr j then ex cal k_C_person 34 (ls) (st) h else ex cal k_C_person 28 (ls) (st) h := e_iclt cal rfl
theorem u_C_person_28 : ex cal k_C_person 28 (aQ r :: ls) (st) h = ex cal k_C_person 29 (aQ r :: ls) (aQ r :: st) h := ex_st cal (s := s_ald 0 29) rfl rfl
theorem u_C_person_29 : ex cal k_C_person 29 (ls) (st) h = ex cal k_C_person 30 (ls) (aI 2 :: st) h := e_push cal rfl
theorem u_C_person_30 (hl : Nat.ble st.length 4 = true) : ex cal k_C_person 30 (ls) (aI z0 :: aQ (some a) :: st) h = gO h a 9 (kk cal k_C_person 33 ls st (cal M_C_refused [aQ (some a), aI z0] h)) := e_callV cal (ci := 9) (as := [aI z0]) rfl (by decide) rfl (Nat.le_of_ble_eq_true hl)
theorem u_C_person_33 : ex cal k_C_person 33 (ls) ([aI v]) h = some (some (aI v), h) := e_ret1 cal rfl
theorem u_C_person_34 : ex cal k_C_person 34 (aQ r :: ls) (st) h = ex cal k_C_person 35 (aQ r :: ls) (aQ r :: st) h := ex_st cal (s := s_ald 0 35) rfl rfl
theorem u_C_person_35 : ex cal k_C_person 35 (aQ r :: ls) (st) h = ex cal k_C_person 36 (aQ r :: ls) (aQ r :: st) h := ex_st cal (s := s_ald 0 36) rfl rfl
theorem u_C_person_36 : ex cal k_C_person 36 (ls) (aQ (some a) :: st) h = gO h a 9 (ex cal k_C_person 39 (ls) (gf h a 0 :: st) h) := e_gf cal rfl
theorem u_C_person_39 : ex cal k_C_person 39 (x0 :: aI v :: ls) (st) h = ex cal k_C_person 40 (x0 :: aI v :: ls) (aI v :: st) h := ex_st cal (s := s_ild 1 40) rfl rfl
theorem u_C_person_40 (hl : Nat.ble st.length 4 = true) : ex cal k_C_person 40 (ls) (aI z0 :: aQ (some a) :: st) h = gO h a 7 (kk cal k_C_person 43 ls st (cal M_St_addPerson [aQ (some a), aI z0] h)) := e_callV cal (ci := 7) (as := [aI z0]) rfl (by decide) rfl (Nat.le_of_ble_eq_true hl)
theorem u_C_person_43 (hl : Nat.ble st.length 4 = true) : ex cal k_C_person 43 (ls) (aI z0 :: aQ (some a) :: st) h = gO h a 9 (kk cal k_C_person 46 ls st (cal M_C_done [aQ (some a), aI z0] h)) := e_callV cal (ci := 9) (as := [aI z0]) rfl (by decide) rfl (Nat.le_of_ble_eq_true hl)
theorem u_C_person_46 : ex cal k_C_person 46 (ls) ([aI v]) h = some (some (aI v), h) := e_ret1 cal rfl
theorem n_C_person (d : Nat) : ev (d + 1) M_C_person [aQ (some a), aI z0] h = ex (ev d) k_C_person 0 [aQ (some a), aI z0] [] h := rfl
theorem u_C_here_0 : ex cal k_C_here 0 (aQ r :: ls) (st) h = ex cal k_C_here 1 (aQ r :: ls) (aQ r :: st) h := ex_st cal (s := s_ald 0 1) rfl rfl
theorem u_C_here_1 : ex cal k_C_here 1 (ls) (aQ (some a) :: st) h = gO h a 9 (ex cal k_C_here 4 (ls) (gf h a 0 :: st) h) := e_gf cal rfl
theorem u_C_here_4 : ex cal k_C_here 4 (x0 :: aI v :: ls) (st) h = ex cal k_C_here 5 (x0 :: aI v :: ls) (aI v :: st) h := ex_st cal (s := s_ild 1 5) rfl rfl
theorem u_C_here_5 (hl : Nat.ble st.length 4 = true) : ex cal k_C_here 5 (ls) (aI z0 :: aQ (some a) :: st) h = gO h a 7 (kk cal k_C_here 8 ls st (cal M_St_isPerson [aQ (some a), aI z0] h)) := e_callV cal (ci := 7) (as := [aI z0]) rfl (by decide) rfl (Nat.le_of_ble_eq_true hl)
theorem u_C_here_8 : ex cal k_C_here 8 (ls) (aI i :: st) h = if wr i = 0 then ex cal k_C_here 11 (ls) (st) h else ex cal k_C_here 17 (ls) (st) h := e_ifne cal rfl
theorem u_C_here_11 : ex cal k_C_here 11 (aQ r :: ls) (st) h = ex cal k_C_here 12 (aQ r :: ls) (aQ r :: st) h := ex_st cal (s := s_ald 0 12) rfl rfl
theorem u_C_here_12 : ex cal k_C_here 12 (ls) (st) h = ex cal k_C_here 13 (ls) (aI 1 :: st) h := e_push cal rfl
theorem u_C_here_13 (hl : Nat.ble st.length 4 = true) : ex cal k_C_here 13 (ls) (aI z0 :: aQ (some a) :: st) h = gO h a 9 (kk cal k_C_here 16 ls st (cal M_C_refused [aQ (some a), aI z0] h)) := e_callV cal (ci := 9) (as := [aI z0]) rfl (by decide) rfl (Nat.le_of_ble_eq_true hl)
theorem u_C_here_16 : ex cal k_C_here 16 (ls) ([aI v]) h = some (some (aI v), h) := e_ret1 cal rfl
theorem u_C_here_17 : ex cal k_C_here 17 (aQ r :: ls) (st) h = ex cal k_C_here 18 (aQ r :: ls) (aQ r :: st) h := ex_st cal (s := s_ald 0 18) rfl rfl
theorem u_C_here_18 : ex cal k_C_here 18 (ls) (aQ (some a) :: st) h = gO h a 9 (ex cal k_C_here 21 (ls) (gf h a 0 :: st) h) := e_gf cal rfl
theorem u_C_here_21 : ex cal k_C_here 21 (x0 :: aI v :: ls) (st) h = ex cal k_C_here 22 (x0 :: aI v :: ls) (aI v :: st) h := ex_st cal (s := s_ild 1 22) rfl rfl
theorem u_C_here_22 (hl : Nat.ble st.length 4 = true) : ex cal k_C_here 22 (ls) (aI z0 :: aQ (some a) :: st) h = gO h a 7 (kk cal k_C_here 25 ls st (cal M_St_isHere [aQ (some a), aI z0] h)) := e_callV cal (ci := 7) (as := [aI z0]) rfl (by decide) rfl (Nat.le_of_ble_eq_true hl)
theorem u_C_here_25 (hx : aNl x2 = true) : ex cal k_C_here 25 (x0 :: x1 :: x2 :: y :: ls) (aI v :: st) h = ex cal k_C_here 26 (x0 :: x1 :: x2 :: aI v :: ls) (st) h := e_ist (ls := x0 :: x1 :: x2 :: y :: ls) (k := 3) rfl hx (by simp only [List.length_cons]; omega)
theorem u_C_here_26 : ex cal k_C_here 26 (aQ r :: ls) (st) h = ex cal k_C_here 27 (aQ r :: ls) (aQ r :: st) h := ex_st cal (s := s_ald 0 27) rfl rfl
theorem u_C_here_27 : ex cal k_C_here 27 (ls) (aQ (some a) :: st) h = gO h a 9 (ex cal k_C_here 30 (ls) (gf h a 0 :: st) h) := e_gf cal rfl
theorem u_C_here_30 : ex cal k_C_here 30 (x0 :: x1 :: aI v :: ls) (st) h = ex cal k_C_here 31 (x0 :: x1 :: aI v :: ls) (aI v :: st) h := ex_st cal (s := s_ild 2 31) rfl rfl
theorem u_C_here_31 : ex cal k_C_here 31 (ls) (aI i :: st) h = if wr i = 0 then ex cal k_C_here 48 (ls) (st) h else ex cal k_C_here 34 (ls) (st) h := e_ifeq cal rfl
theorem u_C_here_34 : ex cal k_C_here 34 (aQ r :: ls) (st) h = ex cal k_C_here 35 (aQ r :: ls) (aQ r :: st) h := ex_st cal (s := s_ald 0 35) rfl rfl
theorem u_C_here_35 : ex cal k_C_here 35 (ls) (aQ (some a) :: st) h = gO h a 9 (ex cal k_C_here 38 (ls) (gf h a 0 :: st) h) := e_gf cal rfl
theorem u_C_here_38 : ex cal k_C_here 38 (ls) (aQ (some a) :: st) h = gO h a 7 (ex cal k_C_here 41 (ls) (gf h a 2 :: st) h) := e_gf cal rfl
theorem u_C_here_41 : ex cal k_C_here 41 (ls) (st) h = ex cal k_C_here 42 (ls) (aI 1 :: st) h := e_push cal rfl
theorem u_C_here_42 : ex cal k_C_here 42 (x0 :: aI v :: ls) (st) h = ex cal k_C_here 43 (x0 :: aI v :: ls) (aI v :: st) h := ex_st cal (s := s_ild 1 43) rfl rfl
theorem u_C_here_43 : ex cal k_C_here 43 (ls) (aI j :: aI i :: st) h = ex cal k_C_here 44 (ls) (aI (wshl i j) :: st) h := e_bin cal rfl
theorem u_C_here_44 : ex cal k_C_here 44 (ls) (aI j :: aI i :: st) h = ex cal k_C_here 45 (ls) (aI (wor i j) :: st) h := e_bin cal rfl
theorem u_C_here_45 : ex cal k_C_here 45 (ls) (st) h = ex cal k_C_here 61 (ls) (st) h := ex_st cal (s := s_go 61) rfl rfl
theorem u_C_here_48 : ex cal k_C_here 48 (aQ r :: ls) (st) h = ex cal k_C_here 49 (aQ r :: ls) (aQ r :: st) h := ex_st cal (s := s_ald 0 49) rfl rfl
theorem u_C_here_49 : ex cal k_C_here 49 (ls) (aQ (some a) :: st) h = gO h a 9 (ex cal k_C_here 52 (ls) (gf h a 0 :: st) h) := e_gf cal rfl
theorem u_C_here_52 : ex cal k_C_here 52 (ls) (aQ (some a) :: st) h = gO h a 7 (ex cal k_C_here 55 (ls) (gf h a 2 :: st) h) := e_gf cal rfl
theorem u_C_here_55 : ex cal k_C_here 55 (ls) (st) h = ex cal k_C_here 56 (ls) (aI 1 :: st) h := e_push cal rfl
theorem u_C_here_56 : ex cal k_C_here 56 (x0 :: aI v :: ls) (st) h = ex cal k_C_here 57 (x0 :: aI v :: ls) (aI v :: st) h := ex_st cal (s := s_ild 1 57) rfl rfl
theorem u_C_here_57 : ex cal k_C_here 57 (ls) (aI j :: aI i :: st) h = ex cal k_C_here 58 (ls) (aI (wshl i j) :: st) h := e_bin cal rfl
theorem u_C_here_58 : ex cal k_C_here 58 (ls) (st) h = ex cal k_C_here 59 (ls) (aI (-1) :: st) h := e_push cal rfl
theorem u_C_here_59 : ex cal k_C_here 59 (ls) (aI j :: aI i :: st) h = ex cal k_C_here 60 (ls) (aI (wxor i j) :: st) h := e_bin cal rfl
theorem u_C_here_60 : ex cal k_C_here 60 (ls) (aI j :: aI i :: st) h = ex cal k_C_here 61 (ls) (aI (wand i j) :: st) h := e_bin cal rfl
theorem u_C_here_61 : ex cal k_C_here 61 (ls) (aI v :: aQ (some a) :: st) h = gO h a 7 (ex cal k_C_here 64 (ls) (st) (pf h a 2 (aI v))) := e_pf1 rfl rfl
theorem u_C_here_64 : ex cal k_C_here 64 (aQ r :: ls) (st) h = ex cal k_C_here 65 (aQ r :: ls) (aQ r :: st) h := ex_st cal (s := s_ald 0 65) rfl rfl
theorem u_C_here_65 : ex cal k_C_here 65 (x0 :: x1 :: x2 :: aI v :: ls) (st) h = ex cal k_C_here 66 (x0 :: x1 :: x2 :: aI v :: ls) (aI v :: st) h := ex_st cal (s := s_ild 3 66) rfl rfl
theorem u_C_here_66 : ex cal k_C_here 66 (x0 :: x1 :: aI v :: ls) (st) h = ex cal k_C_here 67 (x0 :: x1 :: aI v :: ls) (aI v :: st) h := ex_st cal (s := s_ild 2 67) rfl rfl
theorem u_C_here_67 : ex cal k_C_here 67 (ls) (aI j :: aI i :: st) h = if wr i = wr j then ex cal k_C_here 70 (ls) (st) h else ex cal k_C_here 74 (ls) (st) h := e_icne cal rfl
theorem u_C_here_70 : ex cal k_C_here 70 (ls) (st) h = ex cal k_C_here 71 (ls) (aI 0 :: st) h := e_push cal rfl
theorem u_C_here_71 : ex cal k_C_here 71 (ls) (st) h = ex cal k_C_here 75 (ls) (st) h := ex_st cal (s := s_go 75) rfl rfl
theorem u_C_here_74 : ex cal k_C_here 74 (ls) (st) h = ex cal k_C_here 75 (ls) (aI 1 :: st) h := e_push cal rfl
theorem u_C_here_75 (hl : Nat.ble st.length 4 = true) : ex cal k_C_here 75 (ls) (aI z0 :: aQ (some a) :: st) h = gO h a 9 (kk cal k_C_here 78 ls st (cal M_C_done [aQ (some a), aI z0] h)) := e_callV cal (ci := 9) (as := [aI z0]) rfl (by decide) rfl (Nat.le_of_ble_eq_true hl)
theorem u_C_here_78 : ex cal k_C_here 78 (ls) ([aI v]) h = some (some (aI v), h) := e_ret1 cal rfl
theorem n_C_here (d : Nat) : ev (d + 1) M_C_here [aQ (some a), aI z0, aI z1] h = ex (ev d) k_C_here 0 [aQ (some a), aI z0, aI z1, aU] [] h := rfl
theorem u_C_day_0 : ex cal k_C_day 0 (x0 :: aI v :: ls) (st) h = ex cal k_C_day 1 (x0 :: aI v :: ls) (aI v :: st) h := ex_st cal (s := s_ild 1 1) rfl rfl
theorem u_C_day_1 : ex cal k_C_day 1 (ls) (aI i :: st) h = if wr i < 0 then ex cal k_C_day 11 (ls) (st) h else ex cal k_C_day 4 (ls) (st) h := e_iflt cal rfl
theorem u_C_day_4 : ex cal k_C_day 4 (x0 :: aI v :: ls) (st) h = ex cal k_C_day 5 (x0 :: aI v :: ls) (aI v :: st) h := ex_st cal (s := s_ild 1 5) rfl rfl
theorem u_C_day_5 : ex cal k_C_day 5 (ls) (st) h = ex cal k_C_day 8 (ls) (aI 1000 :: st) h := e_push cal rfl
theorem u_C_day_8 : ex cal k_C_day 8 (ls) (aI j :: aI i :: st) h = if wr j < wr i then ex cal k_C_day 11 (ls) (st) h else ex cal k_C_day 17 (ls) (st) h := e_icle cal rfl
theorem u_C_day_11 : ex cal k_C_day 11 (aQ r :: ls) (st) h = ex cal k_C_day 12 (aQ r :: ls) (aQ r :: st) h := ex_st cal (s := s_ald 0 12) rfl rfl
theorem u_C_day_12 : ex cal k_C_day 12 (ls) (st) h = ex cal k_C_day 13 (ls) (aI 1 :: st) h := e_push cal rfl
theorem u_C_day_13 (hl : Nat.ble st.length 4 = true) : ex cal k_C_day 13 (ls) (aI z0 :: aQ (some a) :: st) h = gO h a 9 (kk cal k_C_day 16 ls st (cal M_C_refused [aQ (some a), aI z0] h)) := e_callV cal (ci := 9) (as := [aI z0]) rfl (by decide) rfl (Nat.le_of_ble_eq_true hl)
theorem u_C_day_16 : ex cal k_C_day 16 (ls) ([aI v]) h = some (some (aI v), h) := e_ret1 cal rfl
theorem u_C_day_17 : ex cal k_C_day 17 (aQ r :: ls) (st) h = ex cal k_C_day 18 (aQ r :: ls) (aQ r :: st) h := ex_st cal (s := s_ald 0 18) rfl rfl
theorem u_C_day_18 : ex cal k_C_day 18 (ls) (aQ (some a) :: st) h = gO h a 9 (ex cal k_C_day 21 (ls) (gf h a 0 :: st) h) := e_gf cal rfl
theorem u_C_day_21 : ex cal k_C_day 21 (ls) (aQ (some a) :: st) h = gO h a 7 (ex cal k_C_day 24 (ls) (gf h a 3 :: st) h) := e_gf cal rfl
theorem u_C_day_24 : ex cal k_C_day 24 (x0 :: aI v :: ls) (st) h = ex cal k_C_day 25 (x0 :: aI v :: ls) (aI v :: st) h := ex_st cal (s := s_ild 1 25) rfl rfl
theorem u_C_day_25 : ex cal k_C_day 25 (ls) (aI j :: aI i :: st) h = ex cal k_C_day 26 (ls) (aI (i + j) :: st) h := e_bin cal rfl
theorem u_C_day_26 : ex cal k_C_day 26 (ls) (st) h = ex cal k_C_day 28 (ls) (aI 100000 :: st) h := e_push cal rfl
theorem u_C_day_28 : ex cal k_C_day 28 (ls) (aI j :: aI i :: st) h = if wr j < wr i then ex cal k_C_day 31 (ls) (st) h else ex cal k_C_day 37 (ls) (st) h := e_icle cal rfl
theorem u_C_day_31 : ex cal k_C_day 31 (aQ r :: ls) (st) h = ex cal k_C_day 32 (aQ r :: ls) (aQ r :: st) h := ex_st cal (s := s_ald 0 32) rfl rfl
theorem u_C_day_32 : ex cal k_C_day 32 (ls) (st) h = ex cal k_C_day 33 (ls) (aI 2 :: st) h := e_push cal rfl
theorem u_C_day_33 (hl : Nat.ble st.length 4 = true) : ex cal k_C_day 33 (ls) (aI z0 :: aQ (some a) :: st) h = gO h a 9 (kk cal k_C_day 36 ls st (cal M_C_refused [aQ (some a), aI z0] h)) := e_callV cal (ci := 9) (as := [aI z0]) rfl (by decide) rfl (Nat.le_of_ble_eq_true hl)
theorem u_C_day_36 : ex cal k_C_day 36 (ls) ([aI v]) h = some (some (aI v), h) := e_ret1 cal rfl
theorem u_C_day_37 : ex cal k_C_day 37 (aQ r :: ls) (st) h = ex cal k_C_day 38 (aQ r :: ls) (aQ r :: st) h := ex_st cal (s := s_ald 0 38) rfl rfl
theorem u_C_day_38 : ex cal k_C_day 38 (ls) (aQ (some a) :: st) h = gO h a 9 (ex cal k_C_day 41 (ls) (gf h a 0 :: st) h) := e_gf cal rfl
theorem u_C_day_41 (hx : aNl y = true) : ex cal k_C_day 41 (ls) (y :: st) h = ex cal k_C_day 42 (ls) (y :: y :: st) h := e_dup rfl hx
theorem u_C_day_42 : ex cal k_C_day 42 (ls) (aQ (some a) :: st) h = gO h a 7 (ex cal k_C_day 45 (ls) (gf h a 3 :: st) h) := e_gf cal rfl
theorem u_C_day_45 : ex cal k_C_day 45 (x0 :: aI v :: ls) (st) h = ex cal k_C_day 46 (x0 :: aI v :: ls) (aI v :: st) h := ex_st cal (s := s_ild 1 46) rfl rfl
theorem u_C_day_46 : ex cal k_C_day 46 (ls) (aI j :: aI i :: st) h = ex cal k_C_day 47 (ls) (aI (i + j) :: st) h := e_bin cal rfl
theorem u_C_day_47 : ex cal k_C_day 47 (ls) (aI v :: aQ (some a) :: st) h = gO h a 7 (ex cal k_C_day 50 (ls) (st) (pf h a 3 (aI v))) := e_pf1 rfl rfl
theorem u_C_day_50 : ex cal k_C_day 50 (aQ r :: ls) (st) h = ex cal k_C_day 51 (aQ r :: ls) (aQ r :: st) h := ex_st cal (s := s_ald 0 51) rfl rfl
theorem u_C_day_51 : ex cal k_C_day 51 (aQ r :: ls) (st) h = ex cal k_C_day 52 (aQ r :: ls) (aQ r :: st) h := ex_st cal (s := s_ald 0 52) rfl rfl
theorem u_C_day_52 : ex cal k_C_day 52 (ls) (aQ (some a) :: st) h = gO h a 9 (ex cal k_C_day 55 (ls) (gf h a 0 :: st) h) := e_gf cal rfl
theorem u_C_day_55 : ex cal k_C_day 55 (ls) (aQ (some a) :: st) h = gO h a 7 (ex cal k_C_day 58 (ls) (gf h a 3 :: st) h) := e_gf cal rfl
theorem u_C_day_58 (hl : Nat.ble st.length 4 = true) : ex cal k_C_day 58 (ls) (aI z0 :: aQ (some a) :: st) h = gO h a 9 (kk cal k_C_day 61 ls st (cal M_C_done [aQ (some a), aI z0] h)) := e_callV cal (ci := 9) (as := [aI z0]) rfl (by decide) rfl (Nat.le_of_ble_eq_true hl)
theorem u_C_day_61 : ex cal k_C_day 61 (ls) ([aI v]) h = some (some (aI v), h) := e_ret1 cal rfl
theorem n_C_day (d : Nat) : ev (d + 1) M_C_day [aQ (some a), aI z0] h = ex (ev d) k_C_day 0 [aQ (some a), aI z0] [] h := rfl
theorem u_C_share_0 : ex cal k_C_share 0 (x0 :: aI v :: ls) (st) h = ex cal k_C_share 1 (x0 :: aI v :: ls) (aI v :: st) h := ex_st cal (s := s_ild 1 1) rfl rfl
theorem u_C_share_1 : ex cal k_C_share 1 (ls) (st) h = ex cal k_C_share 2 (ls) (aI 1 :: st) h := e_push cal rfl
theorem u_C_share_2 : ex cal k_C_share 2 (ls) (aI j :: aI i :: st) h = if wr i < wr j then ex cal k_C_share 11 (ls) (st) h else ex cal k_C_share 5 (ls) (st) h := e_iclt cal rfl
theorem u_C_share_5 : ex cal k_C_share 5 (x0 :: aI v :: ls) (st) h = ex cal k_C_share 6 (x0 :: aI v :: ls) (aI v :: st) h := ex_st cal (s := s_ild 1 6) rfl rfl
theorem u_C_share_6 : ex cal k_C_share 6 (ls) (st) h = ex cal k_C_share 8 (ls) (aI 100 :: st) h := e_push cal rfl
theorem u_C_share_8 : ex cal k_C_share 8 (ls) (aI j :: aI i :: st) h = if wr j < wr i then ex cal k_C_share 11 (ls) (st) h else ex cal k_C_share 17 (ls) (st) h := e_icle cal rfl
theorem u_C_share_11 : ex cal k_C_share 11 (aQ r :: ls) (st) h = ex cal k_C_share 12 (aQ r :: ls) (aQ r :: st) h := ex_st cal (s := s_ald 0 12) rfl rfl
theorem u_C_share_12 : ex cal k_C_share 12 (ls) (st) h = ex cal k_C_share 13 (ls) (aI 1 :: st) h := e_push cal rfl
theorem u_C_share_13 (hl : Nat.ble st.length 4 = true) : ex cal k_C_share 13 (ls) (aI z0 :: aQ (some a) :: st) h = gO h a 9 (kk cal k_C_share 16 ls st (cal M_C_refused [aQ (some a), aI z0] h)) := e_callV cal (ci := 9) (as := [aI z0]) rfl (by decide) rfl (Nat.le_of_ble_eq_true hl)
theorem u_C_share_16 : ex cal k_C_share 16 (ls) ([aI v]) h = some (some (aI v), h) := e_ret1 cal rfl
theorem u_C_share_17 : ex cal k_C_share 17 (aQ r :: ls) (st) h = ex cal k_C_share 18 (aQ r :: ls) (aQ r :: st) h := ex_st cal (s := s_ald 0 18) rfl rfl
theorem u_C_share_18 : ex cal k_C_share 18 (ls) (aQ (some a) :: st) h = gO h a 9 (ex cal k_C_share 21 (ls) (gf h a 0 :: st) h) := e_gf cal rfl
theorem u_C_share_21 : ex cal k_C_share 21 (ls) (aQ (some a) :: st) h = gO h a 7 (ex cal k_C_share 24 (ls) (gf h a 4 :: st) h) := e_gf cal rfl
theorem u_C_share_24 (hx : aNl x1 = true) : ex cal k_C_share 24 (x0 :: x1 :: y :: ls) (aI v :: st) h = ex cal k_C_share 25 (x0 :: x1 :: aI v :: ls) (st) h := e_ist (ls := x0 :: x1 :: y :: ls) (k := 2) rfl hx (by simp only [List.length_cons]; omega)
theorem u_C_share_25 : ex cal k_C_share 25 (aQ r :: ls) (st) h = ex cal k_C_share 26 (aQ r :: ls) (aQ r :: st) h := ex_st cal (s := s_ald 0 26) rfl rfl
theorem u_C_share_26 : ex cal k_C_share 26 (ls) (aQ (some a) :: st) h = gO h a 9 (ex cal k_C_share 29 (ls) (gf h a 0 :: st) h) := e_gf cal rfl
theorem u_C_share_29 : ex cal k_C_share 29 (x0 :: aI v :: ls) (st) h = ex cal k_C_share 30 (x0 :: aI v :: ls) (aI v :: st) h := ex_st cal (s := s_ild 1 30) rfl rfl
theorem u_C_share_30 : ex cal k_C_share 30 (ls) (aI v :: aQ (some a) :: st) h = gO h a 7 (ex cal k_C_share 33 (ls) (st) (pf h a 4 (aI v))) := e_pf1 rfl rfl
theorem u_C_share_33 : ex cal k_C_share 33 (aQ r :: ls) (st) h = ex cal k_C_share 34 (aQ r :: ls) (aQ r :: st) h := ex_st cal (s := s_ald 0 34) rfl rfl
theorem u_C_share_34 : ex cal k_C_share 34 (x0 :: x1 :: aI v :: ls) (st) h = ex cal k_C_share 35 (x0 :: x1 :: aI v :: ls) (aI v :: st) h := ex_st cal (s := s_ild 2 35) rfl rfl
theorem u_C_share_35 (hl : Nat.ble st.length 4 = true) : ex cal k_C_share 35 (ls) (aI z0 :: aQ (some a) :: st) h = gO h a 9 (kk cal k_C_share 38 ls st (cal M_C_done [aQ (some a), aI z0] h)) := e_callV cal (ci := 9) (as := [aI z0]) rfl (by decide) rfl (Nat.le_of_ble_eq_true hl)
theorem u_C_share_38 : ex cal k_C_share 38 (ls) ([aI v]) h = some (some (aI v), h) := e_ret1 cal rfl
theorem n_C_share (d : Nat) : ev (d + 1) M_C_share [aQ (some a), aI z0] h = ex (ev d) k_C_share 0 [aQ (some a), aI z0, aU] [] h := rfl
theorem u_C_text_0 : ex cal k_C_text 0 (x0 :: aI v :: ls) (st) h = ex cal k_C_text 1 (x0 :: aI v :: ls) (aI v :: st) h := ex_st cal (s := s_ild 1 1) rfl rfl
theorem u_C_text_1 (hl : Nat.ble st.length 4 = true) : ex cal k_C_text 1 (ls) (aI z0 :: st) h = kk cal k_C_text 4 ls st (cal M_C_isText [aI z0] h) := e_call cal (as := [aI z0]) rfl rfl (Nat.le_of_ble_eq_true hl)
theorem u_C_text_4 : ex cal k_C_text 4 (ls) (aI i :: st) h = if wr i = 0 then ex cal k_C_text 7 (ls) (st) h else ex cal k_C_text 13 (ls) (st) h := e_ifne cal rfl
theorem u_C_text_7 : ex cal k_C_text 7 (aQ r :: ls) (st) h = ex cal k_C_text 8 (aQ r :: ls) (aQ r :: st) h := ex_st cal (s := s_ald 0 8) rfl rfl
theorem u_C_text_8 : ex cal k_C_text 8 (ls) (st) h = ex cal k_C_text 9 (ls) (aI 1 :: st) h := e_push cal rfl
theorem u_C_text_9 (hl : Nat.ble st.length 4 = true) : ex cal k_C_text 9 (ls) (aI z0 :: aQ (some a) :: st) h = gO h a 9 (kk cal k_C_text 12 ls st (cal M_C_refused [aQ (some a), aI z0] h)) := e_callV cal (ci := 9) (as := [aI z0]) rfl (by decide) rfl (Nat.le_of_ble_eq_true hl)
theorem u_C_text_12 : ex cal k_C_text 12 (ls) ([aI v]) h = some (some (aI v), h) := e_ret1 cal rfl
theorem u_C_text_13 : ex cal k_C_text 13 (aQ r :: ls) (st) h = ex cal k_C_text 14 (aQ r :: ls) (aQ r :: st) h := ex_st cal (s := s_ald 0 14) rfl rfl
theorem u_C_text_14 : ex cal k_C_text 14 (ls) (aQ (some a) :: st) h = gO h a 9 (ex cal k_C_text 17 (ls) (gf h a 0 :: st) h) := e_gf cal rfl
theorem u_C_text_17 : ex cal k_C_text 17 (ls) (aQ (some a) :: st) h = gO h a 7 (ex cal k_C_text 20 (ls) (gf h a 5 :: st) h) := e_gf cal rfl
theorem u_C_text_20 : ex cal k_C_text 20 (ls) (st) h = ex cal k_C_text 22 (ls) (aI 20 :: st) h := e_push cal rfl
theorem u_C_text_22 : ex cal k_C_text 22 (ls) (aI j :: aI i :: st) h = if wr i < wr j then ex cal k_C_text 31 (ls) (st) h else ex cal k_C_text 25 (ls) (st) h := e_iclt cal rfl
theorem u_C_text_25 : ex cal k_C_text 25 (aQ r :: ls) (st) h = ex cal k_C_text 26 (aQ r :: ls) (aQ r :: st) h := ex_st cal (s := s_ald 0 26) rfl rfl
theorem u_C_text_26 : ex cal k_C_text 26 (ls) (st) h = ex cal k_C_text 27 (ls) (aI 2 :: st) h := e_push cal rfl
theorem u_C_text_27 (hl : Nat.ble st.length 4 = true) : ex cal k_C_text 27 (ls) (aI z0 :: aQ (some a) :: st) h = gO h a 9 (kk cal k_C_text 30 ls st (cal M_C_refused [aQ (some a), aI z0] h)) := e_callV cal (ci := 9) (as := [aI z0]) rfl (by decide) rfl (Nat.le_of_ble_eq_true hl)
theorem u_C_text_30 : ex cal k_C_text 30 (ls) ([aI v]) h = some (some (aI v), h) := e_ret1 cal rfl
theorem u_C_text_31 : ex cal k_C_text 31 (aQ r :: ls) (st) h = ex cal k_C_text 32 (aQ r :: ls) (aQ r :: st) h := ex_st cal (s := s_ald 0 32) rfl rfl
theorem u_C_text_32 : ex cal k_C_text 32 (ls) (aQ (some a) :: st) h = gO h a 9 (ex cal k_C_text 35 (ls) (gf h a 0 :: st) h) := e_gf cal rfl
theorem u_C_text_35 : ex cal k_C_text 35 (ls) (aQ (some a) :: st) h = gO h a 7 (ex cal k_C_text 38 (ls) (gf h a 6 :: st) h) := e_gf cal rfl
theorem u_C_text_38 : ex cal k_C_text 38 (aQ r :: ls) (st) h = ex cal k_C_text 39 (aQ r :: ls) (aQ r :: st) h := ex_st cal (s := s_ald 0 39) rfl rfl
theorem u_C_text_39 : ex cal k_C_text 39 (ls) (aQ (some a) :: st) h = gO h a 9 (ex cal k_C_text 42 (ls) (gf h a 0 :: st) h) := e_gf cal rfl
theorem u_C_text_42 : ex cal k_C_text 42 (ls) (aQ (some a) :: st) h = gO h a 7 (ex cal k_C_text 45 (ls) (gf h a 5 :: st) h) := e_gf cal rfl
theorem u_C_text_45 : ex cal k_C_text 45 (x0 :: aI v :: ls) (st) h = ex cal k_C_text 46 (x0 :: aI v :: ls) (aI v :: st) h := ex_st cal (s := s_ild 1 46) rfl rfl
theorem u_C_text_46 (h3 : 3 ≤ a) : ex cal k_C_text 46 (ls) (aI v :: aI i :: aQ (some a) :: st) h = gA h a i (ex cal k_C_text 47 (ls) (st) (sa h a (upf (ai h a) (wr i) v))) := e_ias cal rfl h3
theorem u_C_text_47 : ex cal k_C_text 47 (aQ r :: ls) (st) h = ex cal k_C_text 48 (aQ r :: ls) (aQ r :: st) h := ex_st cal (s := s_ald 0 48) rfl rfl
theorem u_C_text_48 : ex cal k_C_text 48 (ls) (aQ (some a) :: st) h = gO h a 9 (ex cal k_C_text 51 (ls) (gf h a 0 :: st) h) := e_gf cal rfl
theorem u_C_text_51 (hx : aNl y = true) : ex cal k_C_text 51 (ls) (y :: st) h = ex cal k_C_text 52 (ls) (y :: y :: st) h := e_dup rfl hx
theorem u_C_text_52 : ex cal k_C_text 52 (ls) (aQ (some a) :: st) h = gO h a 7 (ex cal k_C_text 55 (ls) (gf h a 5 :: st) h) := e_gf cal rfl
theorem u_C_text_55 : ex cal k_C_text 55 (ls) (st) h = ex cal k_C_text 56 (ls) (aI 1 :: st) h := e_push cal rfl
theorem u_C_text_56 : ex cal k_C_text 56 (ls) (aI j :: aI i :: st) h = ex cal k_C_text 57 (ls) (aI (i + j) :: st) h := e_bin cal rfl
theorem u_C_text_57 : ex cal k_C_text 57 (ls) (aI v :: aQ (some a) :: st) h = gO h a 7 (ex cal k_C_text 60 (ls) (st) (pf h a 5 (aI v))) := e_pf1 rfl rfl
theorem u_C_text_60 : ex cal k_C_text 60 (aQ r :: ls) (st) h = ex cal k_C_text 61 (aQ r :: ls) (aQ r :: st) h := ex_st cal (s := s_ald 0 61) rfl rfl
theorem u_C_text_61 : ex cal k_C_text 61 (aQ r :: ls) (st) h = ex cal k_C_text 62 (aQ r :: ls) (aQ r :: st) h := ex_st cal (s := s_ald 0 62) rfl rfl
theorem u_C_text_62 : ex cal k_C_text 62 (ls) (aQ (some a) :: st) h = gO h a 9 (ex cal k_C_text 65 (ls) (gf h a 0 :: st) h) := e_gf cal rfl
theorem u_C_text_65 : ex cal k_C_text 65 (ls) (aQ (some a) :: st) h = gO h a 7 (ex cal k_C_text 68 (ls) (gf h a 5 :: st) h) := e_gf cal rfl
theorem u_C_text_68 (hl : Nat.ble st.length 4 = true) : ex cal k_C_text 68 (ls) (aI z0 :: aQ (some a) :: st) h = gO h a 9 (kk cal k_C_text 71 ls st (cal M_C_done [aQ (some a), aI z0] h)) := e_callV cal (ci := 9) (as := [aI z0]) rfl (by decide) rfl (Nat.le_of_ble_eq_true hl)
theorem u_C_text_71 : ex cal k_C_text 71 (ls) ([aI v]) h = some (some (aI v), h) := e_ret1 cal rfl
theorem n_C_text (d : Nat) : ev (d + 1) M_C_text [aQ (some a), aI z0] h = ex (ev d) k_C_text 0 [aQ (some a), aI z0] [] h := rfl
theorem u_C_wipe_0 : ex cal k_C_wipe 0 (aQ r :: ls) (st) h = ex cal k_C_wipe 1 (aQ r :: ls) (aQ r :: st) h := ex_st cal (s := s_ald 0 1) rfl rfl
theorem u_C_wipe_1 : ex cal k_C_wipe 1 (ls) (aQ (some a) :: st) h = gO h a 9 (ex cal k_C_wipe 4 (ls) (gf h a 0 :: st) h) := e_gf cal rfl
theorem u_C_wipe_4 : ex cal k_C_wipe 4 (ls) (aQ (some a) :: st) h = gO h a 7 (ex cal k_C_wipe 7 (ls) (gf h a 5 :: st) h) := e_gf cal rfl
theorem u_C_wipe_7 (hx : aNl x0 = true) : ex cal k_C_wipe 7 (x0 :: y :: ls) (aI v :: st) h = ex cal k_C_wipe 8 (x0 :: aI v :: ls) (st) h := e_ist (ls := x0 :: y :: ls) (k := 1) rfl hx (by simp only [List.length_cons]; omega)
theorem u_C_wipe_8 : ex cal k_C_wipe 8 (aQ r :: ls) (st) h = ex cal k_C_wipe 9 (aQ r :: ls) (aQ r :: st) h := ex_st cal (s := s_ald 0 9) rfl rfl
theorem u_C_wipe_9 : ex cal k_C_wipe 9 (ls) (aQ (some a) :: st) h = gO h a 9 (ex cal k_C_wipe 12 (ls) (gf h a 0 :: st) h) := e_gf cal rfl
theorem u_C_wipe_12 : ex cal k_C_wipe 12 (ls) (st) h = ex cal k_C_wipe 13 (ls) (aI 0 :: st) h := e_push cal rfl
theorem u_C_wipe_13 : ex cal k_C_wipe 13 (ls) (aI v :: aQ (some a) :: st) h = gO h a 7 (ex cal k_C_wipe 16 (ls) (st) (pf h a 5 (aI v))) := e_pf1 rfl rfl
theorem u_C_wipe_16 : ex cal k_C_wipe 16 (aQ r :: ls) (st) h = ex cal k_C_wipe 17 (aQ r :: ls) (aQ r :: st) h := ex_st cal (s := s_ald 0 17) rfl rfl
theorem u_C_wipe_17 : ex cal k_C_wipe 17 (x0 :: aI v :: ls) (st) h = ex cal k_C_wipe 18 (x0 :: aI v :: ls) (aI v :: st) h := ex_st cal (s := s_ild 1 18) rfl rfl
theorem u_C_wipe_18 (hl : Nat.ble st.length 4 = true) : ex cal k_C_wipe 18 (ls) (aI z0 :: aQ (some a) :: st) h = gO h a 9 (kk cal k_C_wipe 21 ls st (cal M_C_done [aQ (some a), aI z0] h)) := e_callV cal (ci := 9) (as := [aI z0]) rfl (by decide) rfl (Nat.le_of_ble_eq_true hl)
theorem u_C_wipe_21 : ex cal k_C_wipe 21 (ls) ([aI v]) h = some (some (aI v), h) := e_ret1 cal rfl
theorem n_C_wipe (d : Nat) : ev (d + 1) M_C_wipe [aQ (some a)] h = ex (ev d) k_C_wipe 0 [aQ (some a), aU] [] h := rfl
theorem u_C_change_0 : ex cal k_C_change 0 (x0 :: aI v :: ls) (st) h = ex cal k_C_change 1 (x0 :: aI v :: ls) (aI v :: st) h := ex_st cal (s := s_ild 1 1) rfl rfl
theorem u_C_change_1 : ex cal k_C_change 1 (ls) (st) h = ex cal k_C_change 2 (ls) (aI 3 :: st) h := e_push cal rfl
theorem u_C_change_2 : ex cal k_C_change 2 (ls) (aI j :: aI i :: st) h = if wr i = wr j then ex cal k_C_change 5 (ls) (st) h else ex cal k_C_change 9 (ls) (st) h := e_icne cal rfl
theorem u_C_change_5 : ex cal k_C_change 5 (ls) (st) h = ex cal k_C_change 6 (ls) (aI 1 :: st) h := e_push cal rfl
theorem u_C_change_6 : ex cal k_C_change 6 (ls) (st) h = ex cal k_C_change 10 (ls) (st) h := ex_st cal (s := s_go 10) rfl rfl
theorem u_C_change_9 : ex cal k_C_change 9 (ls) (st) h = ex cal k_C_change 10 (ls) (aI 0 :: st) h := e_push cal rfl
theorem u_C_change_10 (hx : aNl x4 = true) : ex cal k_C_change 10 (x0 :: x1 :: x2 :: x3 :: x4 :: y :: ls) (aI v :: st) h = ex cal k_C_change 12 (x0 :: x1 :: x2 :: x3 :: x4 :: aI v :: ls) (st) h := e_ist (ls := x0 :: x1 :: x2 :: x3 :: x4 :: y :: ls) (k := 5) rfl hx (by simp only [List.length_cons]; omega)
theorem u_C_change_12 : ex cal k_C_change 12 (x0 :: aI v :: ls) (st) h = ex cal k_C_change 13 (x0 :: aI v :: ls) (aI v :: st) h := ex_st cal (s := s_ild 1 13) rfl rfl
theorem u_C_change_13 : ex cal k_C_change 13 (ls) (aI i :: st) h = if wr i < 0 then ex cal k_C_change 49 (ls) (st) h else ex cal k_C_change 16 (ls) (st) h := e_iflt cal rfl
theorem u_C_change_16 : ex cal k_C_change 16 (x0 :: aI v :: ls) (st) h = ex cal k_C_change 17 (x0 :: aI v :: ls) (aI v :: st) h := ex_st cal (s := s_ild 1 17) rfl rfl
theorem u_C_change_17 : ex cal k_C_change 17 (ls) (st) h = ex cal k_C_change 19 (ls) (aI 6 :: st) h := e_push cal rfl
theorem u_C_change_19 : ex cal k_C_change 19 (ls) (aI j :: aI i :: st) h = if wr i < wr j then ex cal k_C_change 22 (ls) (st) h else ex cal k_C_change 49 (ls) (st) h := e_icge cal rfl
theorem u_C_change_22 : ex cal k_C_change 22 (x0 :: aI v :: ls) (st) h = ex cal k_C_change 23 (x0 :: aI v :: ls) (aI v :: st) h := ex_st cal (s := s_ild 1 23) rfl rfl
theorem u_C_change_23 : ex cal k_C_change 23 (ls) (st) h = ex cal k_C_change 24 (ls) (aI 4 :: st) h := e_push cal rfl
theorem u_C_change_24 : ex cal k_C_change 24 (ls) (aI j :: aI i :: st) h = if wr i = wr j then ex cal k_C_change 49 (ls) (st) h else ex cal k_C_change 27 (ls) (st) h := e_iceq cal rfl
theorem u_C_change_27 : ex cal k_C_change 27 (aQ r :: ls) (st) h = ex cal k_C_change 28 (aQ r :: ls) (aQ r :: st) h := ex_st cal (s := s_ald 0 28) rfl rfl
theorem u_C_change_28 : ex cal k_C_change 28 (ls) (aQ (some a) :: st) h = gO h a 9 (ex cal k_C_change 31 (ls) (gf h a 0 :: st) h) := e_gf cal rfl
theorem u_C_change_31 : ex cal k_C_change 31 (x0 :: x1 :: aI v :: ls) (st) h = ex cal k_C_change 32 (x0 :: x1 :: aI v :: ls) (aI v :: st) h := ex_st cal (s := s_ild 2 32) rfl rfl
theorem u_C_change_32 (hl : Nat.ble st.length 4 = true) : ex cal k_C_change 32 (ls) (aI z0 :: aQ (some a) :: st) h = gO h a 7 (kk cal k_C_change 35 ls st (cal M_St_pageOf [aQ (some a), aI z0] h)) := e_callV cal (ci := 7) (as := [aI z0]) rfl (by decide) rfl (Nat.le_of_ble_eq_true hl)
theorem u_C_change_35 : ex cal k_C_change 35 (ls) (aQ r :: st) h = if r = none then ex cal k_C_change 49 (ls) (st) h else ex cal k_C_change 38 (ls) (st) h := e_nul cal rfl
theorem u_C_change_38 : ex cal k_C_change 38 (aQ r :: ls) (st) h = ex cal k_C_change 39 (aQ r :: ls) (aQ r :: st) h := ex_st cal (s := s_ald 0 39) rfl rfl
theorem u_C_change_39 : ex cal k_C_change 39 (ls) (aQ (some a) :: st) h = gO h a 9 (ex cal k_C_change 42 (ls) (gf h a 0 :: st) h) := e_gf cal rfl
theorem u_C_change_42 : ex cal k_C_change 42 (x0 :: x1 :: x2 :: aI v :: ls) (st) h = ex cal k_C_change 43 (x0 :: x1 :: x2 :: aI v :: ls) (aI v :: st) h := ex_st cal (s := s_ild 3 43) rfl rfl
theorem u_C_change_43 (hl : Nat.ble st.length 4 = true) : ex cal k_C_change 43 (ls) (aI z0 :: aQ (some a) :: st) h = gO h a 7 (kk cal k_C_change 46 ls st (cal M_St_isPerson [aQ (some a), aI z0] h)) := e_callV cal (ci := 7) (as := [aI z0]) rfl (by decide) rfl (Nat.le_of_ble_eq_true hl)
theorem u_C_change_46 : ex cal k_C_change 46 (ls) (aI i :: st) h = if wr i = 0 then ex cal k_C_change 49 (ls) (st) h else ex cal k_C_change 55 (ls) (st) h := e_ifne cal rfl
theorem u_C_change_49 : ex cal k_C_change 49 (aQ r :: ls) (st) h = ex cal k_C_change 50 (aQ r :: ls) (aQ r :: st) h := ex_st cal (s := s_ald 0 50) rfl rfl
theorem u_C_change_50 : ex cal k_C_change 50 (ls) (st) h = ex cal k_C_change 51 (ls) (aI 1 :: st) h := e_push cal rfl
theorem u_C_change_51 (hl : Nat.ble st.length 4 = true) : ex cal k_C_change 51 (ls) (aI z0 :: aQ (some a) :: st) h = gO h a 9 (kk cal k_C_change 54 ls st (cal M_C_refused [aQ (some a), aI z0] h)) := e_callV cal (ci := 9) (as := [aI z0]) rfl (by decide) rfl (Nat.le_of_ble_eq_true hl)
theorem u_C_change_54 : ex cal k_C_change 54 (ls) ([aI v]) h = some (some (aI v), h) := e_ret1 cal rfl
theorem u_C_change_55 : ex cal k_C_change 55 (x0 :: x1 :: x2 :: x3 :: x4 :: aI v :: ls) (st) h = ex cal k_C_change 57 (x0 :: x1 :: x2 :: x3 :: x4 :: aI v :: ls) (aI v :: st) h := ex_st cal (s := s_ild 5 57) rfl rfl
theorem u_C_change_57 : ex cal k_C_change 57 (ls) (aI i :: st) h = if wr i = 0 then ex cal k_C_change 84 (ls) (st) h else ex cal k_C_change 60 (ls) (st) h := e_ifeq cal rfl
theorem u_C_change_60 : ex cal k_C_change 60 (aQ r :: ls) (st) h = ex cal k_C_change 61 (aQ r :: ls) (aQ r :: st) h := ex_st cal (s := s_ald 0 61) rfl rfl
theorem u_C_change_61 : ex cal k_C_change 61 (ls) (aQ (some a) :: st) h = gO h a 9 (ex cal k_C_change 64 (ls) (gf h a 0 :: st) h) := e_gf cal rfl
theorem u_C_change_64 : ex cal k_C_change 64 (x0 :: x1 :: x2 :: x3 :: aI v :: ls) (st) h = ex cal k_C_change 66 (x0 :: x1 :: x2 :: x3 :: aI v :: ls) (aI v :: st) h := ex_st cal (s := s_ild 4 66) rfl rfl
theorem u_C_change_66 (hl : Nat.ble st.length 4 = true) : ex cal k_C_change 66 (ls) (aI z0 :: aQ (some a) :: st) h = gO h a 7 (kk cal k_C_change 69 ls st (cal M_St_isPerson [aQ (some a), aI z0] h)) := e_callV cal (ci := 7) (as := [aI z0]) rfl (by decide) rfl (Nat.le_of_ble_eq_true hl)
theorem u_C_change_69 : ex cal k_C_change 69 (ls) (aI i :: st) h = if wr i = 0 then ex cal k_C_change 78 (ls) (st) h else ex cal k_C_change 72 (ls) (st) h := e_ifeq cal rfl
theorem u_C_change_72 : ex cal k_C_change 72 (x0 :: x1 :: x2 :: x3 :: aI v :: ls) (st) h = ex cal k_C_change 74 (x0 :: x1 :: x2 :: x3 :: aI v :: ls) (aI v :: st) h := ex_st cal (s := s_ild 4 74) rfl rfl
theorem u_C_change_74 : ex cal k_C_change 74 (x0 :: x1 :: x2 :: aI v :: ls) (st) h = ex cal k_C_change 75 (x0 :: x1 :: x2 :: aI v :: ls) (aI v :: st) h := ex_st cal (s := s_ild 3 75) rfl rfl
theorem u_C_change_75 : ex cal k_C_change 75 (ls) (aI j :: aI i :: st) h = if wr i = wr j then ex cal k_C_change 78 (ls) (st) h else ex cal k_C_change 84 (ls) (st) h := e_icne cal rfl
theorem u_C_change_78 : ex cal k_C_change 78 (aQ r :: ls) (st) h = ex cal k_C_change 79 (aQ r :: ls) (aQ r :: st) h := ex_st cal (s := s_ald 0 79) rfl rfl
theorem u_C_change_79 : ex cal k_C_change 79 (ls) (st) h = ex cal k_C_change 80 (ls) (aI 1 :: st) h := e_push cal rfl
theorem u_C_change_80 (hl : Nat.ble st.length 4 = true) : ex cal k_C_change 80 (ls) (aI z0 :: aQ (some a) :: st) h = gO h a 9 (kk cal k_C_change 83 ls st (cal M_C_refused [aQ (some a), aI z0] h)) := e_callV cal (ci := 9) (as := [aI z0]) rfl (by decide) rfl (Nat.le_of_ble_eq_true hl)
theorem u_C_change_83 : ex cal k_C_change 83 (ls) ([aI v]) h = some (some (aI v), h) := e_ret1 cal rfl
theorem u_C_change_84 : ex cal k_C_change 84 (aQ r :: ls) (st) h = ex cal k_C_change 85 (aQ r :: ls) (aQ r :: st) h := ex_st cal (s := s_ald 0 85) rfl rfl
theorem u_C_change_85 : ex cal k_C_change 85 (ls) (aQ (some a) :: st) h = gO h a 9 (ex cal k_C_change 88 (ls) (gf h a 0 :: st) h) := e_gf cal rfl
theorem u_C_change_88 : ex cal k_C_change 88 (ls) (aQ (some a) :: st) h = gO h a 7 (ex cal k_C_change 91 (ls) (gf h a 8 :: st) h) := e_gf cal rfl
theorem u_C_change_91 : ex cal k_C_change 91 (ls) (st) h = ex cal k_C_change 93 (ls) (aI 60 :: st) h := e_push cal rfl
theorem u_C_change_93 : ex cal k_C_change 93 (ls) (aI j :: aI i :: st) h = if wr i < wr j then ex cal k_C_change 102 (ls) (st) h else ex cal k_C_change 96 (ls) (st) h := e_iclt cal rfl
theorem u_C_change_96 : ex cal k_C_change 96 (aQ r :: ls) (st) h = ex cal k_C_change 97 (aQ r :: ls) (aQ r :: st) h := ex_st cal (s := s_ald 0 97) rfl rfl
theorem u_C_change_97 : ex cal k_C_change 97 (ls) (st) h = ex cal k_C_change 98 (ls) (aI 2 :: st) h := e_push cal rfl
theorem u_C_change_98 (hl : Nat.ble st.length 4 = true) : ex cal k_C_change 98 (ls) (aI z0 :: aQ (some a) :: st) h = gO h a 9 (kk cal k_C_change 101 ls st (cal M_C_refused [aQ (some a), aI z0] h)) := e_callV cal (ci := 9) (as := [aI z0]) rfl (by decide) rfl (Nat.le_of_ble_eq_true hl)
theorem u_C_change_101 : ex cal k_C_change 101 (ls) ([aI v]) h = some (some (aI v), h) := e_ret1 cal rfl
theorem u_C_change_102 : ex cal k_C_change 102 (aQ r :: ls) (st) h = ex cal k_C_change 103 (aQ r :: ls) (aQ r :: st) h := ex_st cal (s := s_ald 0 103) rfl rfl
theorem u_C_change_103 : ex cal k_C_change 103 (ls) (aQ (some a) :: st) h = gO h a 9 (ex cal k_C_change 106 (ls) (gf h a 0 :: st) h) := e_gf cal rfl
theorem u_C_change_106 : ex cal k_C_change 106 (x0 :: x1 :: x2 :: aI v :: ls) (st) h = ex cal k_C_change 107 (x0 :: x1 :: x2 :: aI v :: ls) (aI v :: st) h := ex_st cal (s := s_ild 3 107) rfl rfl
theorem u_C_change_107 (hl : Nat.ble st.length 4 = true) : ex cal k_C_change 107 (ls) (aI z0 :: aQ (some a) :: st) h = gO h a 7 (kk cal k_C_change 110 ls st (cal M_St_isHere [aQ (some a), aI z0] h)) := e_callV cal (ci := 7) (as := [aI z0]) rfl (by decide) rfl (Nat.le_of_ble_eq_true hl)
theorem u_C_change_110 : ex cal k_C_change 110 (ls) (aI i :: st) h = if wr i = 0 then ex cal k_C_change 130 (ls) (st) h else ex cal k_C_change 113 (ls) (st) h := e_ifeq cal rfl
theorem u_C_change_113 : ex cal k_C_change 113 (x0 :: x1 :: x2 :: x3 :: x4 :: aI v :: ls) (st) h = ex cal k_C_change 115 (x0 :: x1 :: x2 :: x3 :: x4 :: aI v :: ls) (aI v :: st) h := ex_st cal (s := s_ild 5 115) rfl rfl
theorem u_C_change_115 : ex cal k_C_change 115 (ls) (aI i :: st) h = if wr i = 0 then ex cal k_C_change 136 (ls) (st) h else ex cal k_C_change 118 (ls) (st) h := e_ifeq cal rfl
theorem u_C_change_118 : ex cal k_C_change 118 (aQ r :: ls) (st) h = ex cal k_C_change 119 (aQ r :: ls) (aQ r :: st) h := ex_st cal (s := s_ald 0 119) rfl rfl
theorem u_C_change_119 : ex cal k_C_change 119 (ls) (aQ (some a) :: st) h = gO h a 9 (ex cal k_C_change 122 (ls) (gf h a 0 :: st) h) := e_gf cal rfl
theorem u_C_change_122 : ex cal k_C_change 122 (x0 :: x1 :: x2 :: x3 :: aI v :: ls) (st) h = ex cal k_C_change 124 (x0 :: x1 :: x2 :: x3 :: aI v :: ls) (aI v :: st) h := ex_st cal (s := s_ild 4 124) rfl rfl
theorem u_C_change_124 (hl : Nat.ble st.length 4 = true) : ex cal k_C_change 124 (ls) (aI z0 :: aQ (some a) :: st) h = gO h a 7 (kk cal k_C_change 127 ls st (cal M_St_isHere [aQ (some a), aI z0] h)) := e_callV cal (ci := 7) (as := [aI z0]) rfl (by decide) rfl (Nat.le_of_ble_eq_true hl)
theorem u_C_change_127 : ex cal k_C_change 127 (ls) (aI i :: st) h = if wr i = 0 then ex cal k_C_change 130 (ls) (st) h else ex cal k_C_change 136 (ls) (st) h := e_ifne cal rfl
theorem u_C_change_130 : ex cal k_C_change 130 (aQ r :: ls) (st) h = ex cal k_C_change 131 (aQ r :: ls) (aQ r :: st) h := ex_st cal (s := s_ald 0 131) rfl rfl
theorem u_C_change_131 : ex cal k_C_change 131 (ls) (st) h = ex cal k_C_change 132 (ls) (aI 3 :: st) h := e_push cal rfl
theorem u_C_change_132 (hl : Nat.ble st.length 4 = true) : ex cal k_C_change 132 (ls) (aI z0 :: aQ (some a) :: st) h = gO h a 9 (kk cal k_C_change 135 ls st (cal M_C_refused [aQ (some a), aI z0] h)) := e_callV cal (ci := 9) (as := [aI z0]) rfl (by decide) rfl (Nat.le_of_ble_eq_true hl)
theorem u_C_change_135 : ex cal k_C_change 135 (ls) ([aI v]) h = some (some (aI v), h) := e_ret1 cal rfl
theorem u_C_change_136 : ex cal k_C_change 136 (ls) (st) h = ex cal k_C_change 139 (ls) (aQ (some (aSz h)) :: st) (aNew h (.inl (1, aDf 1)) (aNf 1)) := e_new cal rfl
theorem u_C_change_139 (hx : aNl y = true) : ex cal k_C_change 139 (ls) (y :: st) h = ex cal k_C_change 140 (ls) (y :: y :: st) h := e_dup rfl hx
theorem u_C_change_140 : ex cal k_C_change 140 (aQ r :: ls) (st) h = ex cal k_C_change 141 (aQ r :: ls) (aQ r :: st) h := ex_st cal (s := s_ald 0 141) rfl rfl
theorem u_C_change_141 : ex cal k_C_change 141 (ls) (aQ (some a) :: st) h = gO h a 9 (ex cal k_C_change 144 (ls) (gf h a 0 :: st) h) := e_gf cal rfl
theorem u_C_change_144 : ex cal k_C_change 144 (x0 :: aI v :: ls) (st) h = ex cal k_C_change 145 (x0 :: aI v :: ls) (aI v :: st) h := ex_st cal (s := s_ild 1 145) rfl rfl
theorem u_C_change_145 : ex cal k_C_change 145 (x0 :: x1 :: aI v :: ls) (st) h = ex cal k_C_change 146 (x0 :: x1 :: aI v :: ls) (aI v :: st) h := ex_st cal (s := s_ild 2 146) rfl rfl
theorem u_C_change_146 : ex cal k_C_change 146 (x0 :: x1 :: x2 :: aI v :: ls) (st) h = ex cal k_C_change 147 (x0 :: x1 :: x2 :: aI v :: ls) (aI v :: st) h := ex_st cal (s := s_ild 3 147) rfl rfl
theorem u_C_change_147 : ex cal k_C_change 147 (x0 :: x1 :: x2 :: x3 :: x4 :: aI v :: ls) (st) h = ex cal k_C_change 149 (x0 :: x1 :: x2 :: x3 :: x4 :: aI v :: ls) (aI v :: st) h := ex_st cal (s := s_ild 5 149) rfl rfl
theorem u_C_change_149 : ex cal k_C_change 149 (ls) (aI i :: st) h = if wr i = 0 then ex cal k_C_change 157 (ls) (st) h else ex cal k_C_change 152 (ls) (st) h := e_ifeq cal rfl
theorem u_C_change_152 : ex cal k_C_change 152 (x0 :: x1 :: x2 :: x3 :: aI v :: ls) (st) h = ex cal k_C_change 154 (x0 :: x1 :: x2 :: x3 :: aI v :: ls) (aI v :: st) h := ex_st cal (s := s_ild 4 154) rfl rfl
theorem u_C_change_154 : ex cal k_C_change 154 (ls) (st) h = ex cal k_C_change 158 (ls) (st) h := ex_st cal (s := s_go 158) rfl rfl
theorem u_C_change_157 : ex cal k_C_change 157 (ls) (st) h = ex cal k_C_change 158 (ls) (aI (-1) :: st) h := e_push cal rfl
theorem u_C_change_158 (hl : Nat.ble st.length 4 = true) : ex cal k_C_change 158 (ls) (aI z4 :: aI z3 :: aI z2 :: aI z1 :: aQ r0 :: aQ (some a) :: st) h = kk cal k_C_change 161 ls st (cal M_Ch_init [aQ (some a), aQ r0, aI z1, aI z2, aI z3, aI z4] h) := e_callI cal (as := [aI z4, aI z3, aI z2, aI z1, aQ r0]) rfl rfl (Nat.le_of_ble_eq_true hl)
theorem u_C_change_161 (hx : aNl x5 = true) : ex cal k_C_change 161 (x0 :: x1 :: x2 :: x3 :: x4 :: x5 :: y :: ls) (aQ r :: st) h = ex cal k_C_change 163 (x0 :: x1 :: x2 :: x3 :: x4 :: x5 :: aQ r :: ls) (st) h := e_ast (ls := x0 :: x1 :: x2 :: x3 :: x4 :: x5 :: y :: ls) (k := 6) rfl hx (by simp only [List.length_cons]; omega)
theorem u_C_change_163 : ex cal k_C_change 163 (aQ r :: ls) (st) h = ex cal k_C_change 164 (aQ r :: ls) (aQ r :: st) h := ex_st cal (s := s_ald 0 164) rfl rfl
theorem u_C_change_164 : ex cal k_C_change 164 (ls) (aQ (some a) :: st) h = gO h a 9 (ex cal k_C_change 167 (ls) (gf h a 2 :: st) h) := e_gf cal rfl
theorem u_C_change_167 : ex cal k_C_change 167 (x0 :: x1 :: x2 :: x3 :: x4 :: x5 :: aQ r :: ls) (st) h = ex cal k_C_change 169 (x0 :: x1 :: x2 :: x3 :: x4 :: x5 :: aQ r :: ls) (aQ r :: st) h := ex_st cal (s := s_ald 6 169) rfl rfl
theorem u_C_change_169 : ex cal k_C_change 169 (aQ r :: ls) (st) h = ex cal k_C_change 170 (aQ r :: ls) (aQ r :: st) h := ex_st cal (s := s_ald 0 170) rfl rfl
theorem u_C_change_170 : ex cal k_C_change 170 (ls) (aQ (some a) :: st) h = gO h a 9 (ex cal k_C_change 173 (ls) (gf h a 0 :: st) h) := e_gf cal rfl
theorem u_C_change_173 : ex cal k_C_change 173 (ls) (aQ (some a) :: st) h = gO h a 7 (ex cal k_C_change 176 (ls) (gf h a 6 :: st) h) := e_gf cal rfl
theorem u_C_change_176 : ex cal k_C_change 176 (aQ r :: ls) (st) h = ex cal k_C_change 177 (aQ r :: ls) (aQ r :: st) h := ex_st cal (s := s_ald 0 177) rfl rfl
theorem u_C_change_177 : ex cal k_C_change 177 (ls) (aQ (some a) :: st) h = gO h a 9 (ex cal k_C_change 180 (ls) (gf h a 0 :: st) h) := e_gf cal rfl
theorem u_C_change_180 : ex cal k_C_change 180 (ls) (aQ (some a) :: st) h = gO h a 7 (ex cal k_C_change 183 (ls) (gf h a 5 :: st) h) := e_gf cal rfl
theorem u_C_change_183 (hl : Nat.ble st.length 4 = true) : ex cal k_C_change 183 (ls) (aI z2 :: aQ r1 :: aQ r0 :: aQ (some a) :: st) h = gO h a 2 (kk cal k_C_change 186 ls st (cal M_Kp_after [aQ (some a), aQ r0, aQ r1, aI z2] h)) := e_callV cal (ci := 2) (as := [aI z2, aQ r1, aQ r0]) rfl (by decide) rfl (Nat.le_of_ble_eq_true hl)
theorem u_C_change_186 (hx : aNl x6 = true) : ex cal k_C_change 186 (x0 :: x1 :: x2 :: x3 :: x4 :: x5 :: x6 :: y :: ls) (aQ r :: st) h = ex cal k_C_change 188 (x0 :: x1 :: x2 :: x3 :: x4 :: x5 :: x6 :: aQ r :: ls) (st) h := e_ast (ls := x0 :: x1 :: x2 :: x3 :: x4 :: x5 :: x6 :: y :: ls) (k := 7) rfl hx (by simp only [List.length_cons]; omega)
theorem u_C_change_188 : ex cal k_C_change 188 (aQ r :: ls) (st) h = ex cal k_C_change 189 (aQ r :: ls) (aQ r :: st) h := ex_st cal (s := s_ald 0 189) rfl rfl
theorem u_C_change_189 : ex cal k_C_change 189 (ls) (aQ (some a) :: st) h = gO h a 9 (ex cal k_C_change 192 (ls) (gf h a 0 :: st) h) := e_gf cal rfl
theorem u_C_change_192 : ex cal k_C_change 192 (x0 :: x1 :: x2 :: x3 :: x4 :: x5 :: aQ r :: ls) (st) h = ex cal k_C_change 194 (x0 :: x1 :: x2 :: x3 :: x4 :: x5 :: aQ r :: ls) (aQ r :: st) h := ex_st cal (s := s_ald 6 194) rfl rfl
theorem u_C_change_194 : ex cal k_C_change 194 (x0 :: x1 :: x2 :: x3 :: x4 :: x5 :: x6 :: aQ r :: ls) (st) h = ex cal k_C_change 196 (x0 :: x1 :: x2 :: x3 :: x4 :: x5 :: x6 :: aQ r :: ls) (aQ r :: st) h := ex_st cal (s := s_ald 7 196) rfl rfl
theorem u_C_change_196 (hl : Nat.ble st.length 4 = true) : ex cal k_C_change 196 (ls) (aQ r1 :: aQ r0 :: aQ (some a) :: st) h = gO h a 7 (kk cal k_C_change 199 ls st (cal M_St_addChange [aQ (some a), aQ r0, aQ r1] h)) := e_callV cal (ci := 7) (as := [aQ r1, aQ r0]) rfl (by decide) rfl (Nat.le_of_ble_eq_true hl)
theorem u_C_change_199 : ex cal k_C_change 199 (aQ r :: ls) (st) h = ex cal k_C_change 200 (aQ r :: ls) (aQ r :: st) h := ex_st cal (s := s_ald 0 200) rfl rfl
theorem u_C_change_200 : ex cal k_C_change 200 (ls) (aQ (some a) :: st) h = gO h a 9 (ex cal k_C_change 203 (ls) (gf h a 0 :: st) h) := e_gf cal rfl
theorem u_C_change_203 : ex cal k_C_change 203 (ls) (st) h = ex cal k_C_change 204 (ls) (aI 0 :: st) h := e_push cal rfl
theorem u_C_change_204 : ex cal k_C_change 204 (ls) (aI v :: aQ (some a) :: st) h = gO h a 7 (ex cal k_C_change 207 (ls) (st) (pf h a 5 (aI v))) := e_pf1 rfl rfl
theorem u_C_change_207 : ex cal k_C_change 207 (aQ r :: ls) (st) h = ex cal k_C_change 208 (aQ r :: ls) (aQ r :: st) h := ex_st cal (s := s_ald 0 208) rfl rfl
theorem u_C_change_208 : ex cal k_C_change 208 (x0 :: x1 :: x2 :: x3 :: x4 :: x5 :: aQ r :: ls) (st) h = ex cal k_C_change 210 (x0 :: x1 :: x2 :: x3 :: x4 :: x5 :: aQ r :: ls) (aQ r :: st) h := ex_st cal (s := s_ald 6 210) rfl rfl
theorem u_C_change_210 : ex cal k_C_change 210 (ls) (aQ (some a) :: st) h = gO h a 1 (ex cal k_C_change 213 (ls) (gf h a 0 :: st) h) := e_gf cal rfl
theorem u_C_change_213 (hl : Nat.ble st.length 4 = true) : ex cal k_C_change 213 (ls) (aI z0 :: aQ (some a) :: st) h = gO h a 9 (kk cal k_C_change 216 ls st (cal M_C_done [aQ (some a), aI z0] h)) := e_callV cal (ci := 9) (as := [aI z0]) rfl (by decide) rfl (Nat.le_of_ble_eq_true hl)
theorem u_C_change_216 : ex cal k_C_change 216 (ls) ([aI v]) h = some (some (aI v), h) := e_ret1 cal rfl
theorem n_C_change (d : Nat) : ev (d + 1) M_C_change [aQ (some a), aI z0, aI z1, aI z2, aI z3] h = ex (ev d) k_C_change 0 [aQ (some a), aI z0, aI z1, aI z2, aI z3, aU, aU, aU] [] h := rfl
theorem u_C_back_0 : ex cal k_C_back 0 (aQ r :: ls) (st) h = ex cal k_C_back 1 (aQ r :: ls) (aQ r :: st) h := ex_st cal (s := s_ald 0 1) rfl rfl
theorem u_C_back_1 : ex cal k_C_back 1 (ls) (aQ (some a) :: st) h = gO h a 9 (ex cal k_C_back 4 (ls) (gf h a 0 :: st) h) := e_gf cal rfl
theorem u_C_back_4 : ex cal k_C_back 4 (x0 :: aI v :: ls) (st) h = ex cal k_C_back 5 (x0 :: aI v :: ls) (aI v :: st) h := ex_st cal (s := s_ild 1 5) rfl rfl
theorem u_C_back_5 (hl : Nat.ble st.length 4 = true) : ex cal k_C_back 5 (ls) (aI z0 :: aQ (some a) :: st) h = gO h a 7 (kk cal k_C_back 8 ls st (cal M_St_changeOf [aQ (some a), aI z0] h)) := e_callV cal (ci := 7) (as := [aI z0]) rfl (by decide) rfl (Nat.le_of_ble_eq_true hl)
theorem u_C_back_8 (hx : aNl x2 = true) : ex cal k_C_back 8 (x0 :: x1 :: x2 :: y :: ls) (aQ r :: st) h = ex cal k_C_back 9 (x0 :: x1 :: x2 :: aQ r :: ls) (st) h := e_ast (ls := x0 :: x1 :: x2 :: y :: ls) (k := 3) rfl hx (by simp only [List.length_cons]; omega)
theorem u_C_back_9 : ex cal k_C_back 9 (x0 :: x1 :: x2 :: aQ r :: ls) (st) h = ex cal k_C_back 10 (x0 :: x1 :: x2 :: aQ r :: ls) (aQ r :: st) h := ex_st cal (s := s_ald 3 10) rfl rfl
theorem u_C_back_10 : ex cal k_C_back 10 (ls) (aQ r :: st) h = if r = none then ex cal k_C_back 24 (ls) (st) h else ex cal k_C_back 13 (ls) (st) h := e_nul cal rfl
theorem u_C_back_13 : ex cal k_C_back 13 (aQ r :: ls) (st) h = ex cal k_C_back 14 (aQ r :: ls) (aQ r :: st) h := ex_st cal (s := s_ald 0 14) rfl rfl
theorem u_C_back_14 : ex cal k_C_back 14 (ls) (aQ (some a) :: st) h = gO h a 9 (ex cal k_C_back 17 (ls) (gf h a 0 :: st) h) := e_gf cal rfl
theorem u_C_back_17 : ex cal k_C_back 17 (x0 :: x1 :: aI v :: ls) (st) h = ex cal k_C_back 18 (x0 :: x1 :: aI v :: ls) (aI v :: st) h := ex_st cal (s := s_ild 2 18) rfl rfl
theorem u_C_back_18 (hl : Nat.ble st.length 4 = true) : ex cal k_C_back 18 (ls) (aI z0 :: aQ (some a) :: st) h = gO h a 7 (kk cal k_C_back 21 ls st (cal M_St_isPerson [aQ (some a), aI z0] h)) := e_callV cal (ci := 7) (as := [aI z0]) rfl (by decide) rfl (Nat.le_of_ble_eq_true hl)
theorem u_C_back_21 : ex cal k_C_back 21 (ls) (aI i :: st) h = if wr i = 0 then ex cal k_C_back 24 (ls) (st) h else ex cal k_C_back 30 (ls) (st) h := e_ifne cal rfl
theorem u_C_back_24 : ex cal k_C_back 24 (aQ r :: ls) (st) h = ex cal k_C_back 25 (aQ r :: ls) (aQ r :: st) h := ex_st cal (s := s_ald 0 25) rfl rfl
theorem u_C_back_25 : ex cal k_C_back 25 (ls) (st) h = ex cal k_C_back 26 (ls) (aI 1 :: st) h := e_push cal rfl
theorem u_C_back_26 (hl : Nat.ble st.length 4 = true) : ex cal k_C_back 26 (ls) (aI z0 :: aQ (some a) :: st) h = gO h a 9 (kk cal k_C_back 29 ls st (cal M_C_refused [aQ (some a), aI z0] h)) := e_callV cal (ci := 9) (as := [aI z0]) rfl (by decide) rfl (Nat.le_of_ble_eq_true hl)
theorem u_C_back_29 : ex cal k_C_back 29 (ls) ([aI v]) h = some (some (aI v), h) := e_ret1 cal rfl
theorem u_C_back_30 : ex cal k_C_back 30 (aQ r :: ls) (st) h = ex cal k_C_back 31 (aQ r :: ls) (aQ r :: st) h := ex_st cal (s := s_ald 0 31) rfl rfl
theorem u_C_back_31 : ex cal k_C_back 31 (ls) (aQ (some a) :: st) h = gO h a 9 (ex cal k_C_back 34 (ls) (gf h a 0 :: st) h) := e_gf cal rfl
theorem u_C_back_34 : ex cal k_C_back 34 (ls) (aQ (some a) :: st) h = gO h a 7 (ex cal k_C_back 37 (ls) (gf h a 8 :: st) h) := e_gf cal rfl
theorem u_C_back_37 : ex cal k_C_back 37 (ls) (st) h = ex cal k_C_back 39 (ls) (aI 60 :: st) h := e_push cal rfl
theorem u_C_back_39 : ex cal k_C_back 39 (ls) (aI j :: aI i :: st) h = if wr i < wr j then ex cal k_C_back 48 (ls) (st) h else ex cal k_C_back 42 (ls) (st) h := e_iclt cal rfl
theorem u_C_back_42 : ex cal k_C_back 42 (aQ r :: ls) (st) h = ex cal k_C_back 43 (aQ r :: ls) (aQ r :: st) h := ex_st cal (s := s_ald 0 43) rfl rfl
theorem u_C_back_43 : ex cal k_C_back 43 (ls) (st) h = ex cal k_C_back 44 (ls) (aI 2 :: st) h := e_push cal rfl
theorem u_C_back_44 (hl : Nat.ble st.length 4 = true) : ex cal k_C_back 44 (ls) (aI z0 :: aQ (some a) :: st) h = gO h a 9 (kk cal k_C_back 47 ls st (cal M_C_refused [aQ (some a), aI z0] h)) := e_callV cal (ci := 9) (as := [aI z0]) rfl (by decide) rfl (Nat.le_of_ble_eq_true hl)
theorem u_C_back_47 : ex cal k_C_back 47 (ls) ([aI v]) h = some (some (aI v), h) := e_ret1 cal rfl
theorem u_C_back_48 : ex cal k_C_back 48 (aQ r :: ls) (st) h = ex cal k_C_back 49 (aQ r :: ls) (aQ r :: st) h := ex_st cal (s := s_ald 0 49) rfl rfl
theorem u_C_back_49 : ex cal k_C_back 49 (ls) (aQ (some a) :: st) h = gO h a 9 (ex cal k_C_back 52 (ls) (gf h a 0 :: st) h) := e_gf cal rfl
theorem u_C_back_52 : ex cal k_C_back 52 (x0 :: x1 :: aI v :: ls) (st) h = ex cal k_C_back 53 (x0 :: x1 :: aI v :: ls) (aI v :: st) h := ex_st cal (s := s_ild 2 53) rfl rfl
theorem u_C_back_53 (hl : Nat.ble st.length 4 = true) : ex cal k_C_back 53 (ls) (aI z0 :: aQ (some a) :: st) h = gO h a 7 (kk cal k_C_back 56 ls st (cal M_St_isHere [aQ (some a), aI z0] h)) := e_callV cal (ci := 7) (as := [aI z0]) rfl (by decide) rfl (Nat.le_of_ble_eq_true hl)
theorem u_C_back_56 : ex cal k_C_back 56 (ls) (aI i :: st) h = if wr i = 0 then ex cal k_C_back 59 (ls) (st) h else ex cal k_C_back 65 (ls) (st) h := e_ifne cal rfl
theorem u_C_back_59 : ex cal k_C_back 59 (aQ r :: ls) (st) h = ex cal k_C_back 60 (aQ r :: ls) (aQ r :: st) h := ex_st cal (s := s_ald 0 60) rfl rfl
theorem u_C_back_60 : ex cal k_C_back 60 (ls) (st) h = ex cal k_C_back 61 (ls) (aI 3 :: st) h := e_push cal rfl
theorem u_C_back_61 (hl : Nat.ble st.length 4 = true) : ex cal k_C_back 61 (ls) (aI z0 :: aQ (some a) :: st) h = gO h a 9 (kk cal k_C_back 64 ls st (cal M_C_refused [aQ (some a), aI z0] h)) := e_callV cal (ci := 9) (as := [aI z0]) rfl (by decide) rfl (Nat.le_of_ble_eq_true hl)
theorem u_C_back_64 : ex cal k_C_back 64 (ls) ([aI v]) h = some (some (aI v), h) := e_ret1 cal rfl
theorem u_C_back_65 : ex cal k_C_back 65 (ls) (st) h = ex cal k_C_back 68 (ls) (aQ (some (aSz h)) :: st) (aNew h (.inl (1, aDf 1)) (aNf 1)) := e_new cal rfl
theorem u_C_back_68 (hx : aNl y = true) : ex cal k_C_back 68 (ls) (y :: st) h = ex cal k_C_back 69 (ls) (y :: y :: st) h := e_dup rfl hx
theorem u_C_back_69 : ex cal k_C_back 69 (aQ r :: ls) (st) h = ex cal k_C_back 70 (aQ r :: ls) (aQ r :: st) h := ex_st cal (s := s_ald 0 70) rfl rfl
theorem u_C_back_70 : ex cal k_C_back 70 (ls) (aQ (some a) :: st) h = gO h a 9 (ex cal k_C_back 73 (ls) (gf h a 0 :: st) h) := e_gf cal rfl
theorem u_C_back_73 : ex cal k_C_back 73 (ls) (st) h = ex cal k_C_back 74 (ls) (aI 4 :: st) h := e_push cal rfl
theorem u_C_back_74 : ex cal k_C_back 74 (x0 :: x1 :: x2 :: aQ r :: ls) (st) h = ex cal k_C_back 75 (x0 :: x1 :: x2 :: aQ r :: ls) (aQ r :: st) h := ex_st cal (s := s_ald 3 75) rfl rfl
theorem u_C_back_75 : ex cal k_C_back 75 (ls) (aQ (some a) :: st) h = gO h a 1 (ex cal k_C_back 78 (ls) (gf h a 2 :: st) h) := e_gf cal rfl
theorem u_C_back_78 : ex cal k_C_back 78 (x0 :: x1 :: aI v :: ls) (st) h = ex cal k_C_back 79 (x0 :: x1 :: aI v :: ls) (aI v :: st) h := ex_st cal (s := s_ild 2 79) rfl rfl
theorem u_C_back_79 : ex cal k_C_back 79 (x0 :: aI v :: ls) (st) h = ex cal k_C_back 80 (x0 :: aI v :: ls) (aI v :: st) h := ex_st cal (s := s_ild 1 80) rfl rfl
theorem u_C_back_80 (hl : Nat.ble st.length 4 = true) : ex cal k_C_back 80 (ls) (aI z4 :: aI z3 :: aI z2 :: aI z1 :: aQ r0 :: aQ (some a) :: st) h = kk cal k_C_back 83 ls st (cal M_Ch_init [aQ (some a), aQ r0, aI z1, aI z2, aI z3, aI z4] h) := e_callI cal (as := [aI z4, aI z3, aI z2, aI z1, aQ r0]) rfl rfl (Nat.le_of_ble_eq_true hl)
theorem u_C_back_83 (hx : aNl x3 = true) : ex cal k_C_back 83 (x0 :: x1 :: x2 :: x3 :: y :: ls) (aQ r :: st) h = ex cal k_C_back 85 (x0 :: x1 :: x2 :: x3 :: aQ r :: ls) (st) h := e_ast (ls := x0 :: x1 :: x2 :: x3 :: y :: ls) (k := 4) rfl hx (by simp only [List.length_cons]; omega)
theorem u_C_back_85 : ex cal k_C_back 85 (x0 :: x1 :: x2 :: x3 :: aQ r :: ls) (st) h = ex cal k_C_back 87 (x0 :: x1 :: x2 :: x3 :: aQ r :: ls) (aQ r :: st) h := ex_st cal (s := s_ald 4 87) rfl rfl
theorem u_C_back_87 : ex cal k_C_back 87 (x0 :: x1 :: x2 :: aQ r :: ls) (st) h = ex cal k_C_back 88 (x0 :: x1 :: x2 :: aQ r :: ls) (aQ r :: st) h := ex_st cal (s := s_ald 3 88) rfl rfl
theorem u_C_back_88 : ex cal k_C_back 88 (ls) (aQ (some a) :: st) h = gO h a 1 (ex cal k_C_back 91 (ls) (gf h a 6 :: st) h) := e_gf cal rfl
theorem u_C_back_91 (hl : Nat.ble st.length 4 = true) : ex cal k_C_back 91 (ls) (aQ (some a) :: st) h = gO h a 4 (kk cal k_C_back 94 ls st (cal M_Pg_size [aQ (some a)] h)) := e_callV cal (ci := 4) (as := []) rfl (by decide) rfl (Nat.le_of_ble_eq_true hl)
theorem u_C_back_94 : ex cal k_C_back 94 (ls) (aI v :: aQ (some a) :: st) h = gO h a 1 (ex cal k_C_back 97 (ls) (st) (pf h a 7 (aI v))) := e_pf1 rfl rfl
theorem u_C_back_97 : ex cal k_C_back 97 (aQ r :: ls) (st) h = ex cal k_C_back 98 (aQ r :: ls) (aQ r :: st) h := ex_st cal (s := s_ald 0 98) rfl rfl
theorem u_C_back_98 : ex cal k_C_back 98 (ls) (aQ (some a) :: st) h = gO h a 9 (ex cal k_C_back 101 (ls) (gf h a 0 :: st) h) := e_gf cal rfl
theorem u_C_back_101 : ex cal k_C_back 101 (x0 :: x1 :: x2 :: x3 :: aQ r :: ls) (st) h = ex cal k_C_back 103 (x0 :: x1 :: x2 :: x3 :: aQ r :: ls) (aQ r :: st) h := ex_st cal (s := s_ald 4 103) rfl rfl
theorem u_C_back_103 : ex cal k_C_back 103 (x0 :: x1 :: x2 :: aQ r :: ls) (st) h = ex cal k_C_back 104 (x0 :: x1 :: x2 :: aQ r :: ls) (aQ r :: st) h := ex_st cal (s := s_ald 3 104) rfl rfl
theorem u_C_back_104 : ex cal k_C_back 104 (ls) (aQ (some a) :: st) h = gO h a 1 (ex cal k_C_back 107 (ls) (gf h a 6 :: st) h) := e_gf cal rfl
theorem u_C_back_107 (hl : Nat.ble st.length 4 = true) : ex cal k_C_back 107 (ls) (aQ r1 :: aQ r0 :: aQ (some a) :: st) h = gO h a 7 (kk cal k_C_back 110 ls st (cal M_St_addChange [aQ (some a), aQ r0, aQ r1] h)) := e_callV cal (ci := 7) (as := [aQ r1, aQ r0]) rfl (by decide) rfl (Nat.le_of_ble_eq_true hl)
theorem u_C_back_110 : ex cal k_C_back 110 (aQ r :: ls) (st) h = ex cal k_C_back 111 (aQ r :: ls) (aQ r :: st) h := ex_st cal (s := s_ald 0 111) rfl rfl
theorem u_C_back_111 : ex cal k_C_back 111 (x0 :: x1 :: x2 :: x3 :: aQ r :: ls) (st) h = ex cal k_C_back 113 (x0 :: x1 :: x2 :: x3 :: aQ r :: ls) (aQ r :: st) h := ex_st cal (s := s_ald 4 113) rfl rfl
theorem u_C_back_113 : ex cal k_C_back 113 (ls) (aQ (some a) :: st) h = gO h a 1 (ex cal k_C_back 116 (ls) (gf h a 0 :: st) h) := e_gf cal rfl
theorem u_C_back_116 (hl : Nat.ble st.length 4 = true) : ex cal k_C_back 116 (ls) (aI z0 :: aQ (some a) :: st) h = gO h a 9 (kk cal k_C_back 119 ls st (cal M_C_done [aQ (some a), aI z0] h)) := e_callV cal (ci := 9) (as := [aI z0]) rfl (by decide) rfl (Nat.le_of_ble_eq_true hl)
theorem u_C_back_119 : ex cal k_C_back 119 (ls) ([aI v]) h = some (some (aI v), h) := e_ret1 cal rfl
theorem n_C_back (d : Nat) : ev (d + 1) M_C_back [aQ (some a), aI z0, aI z1] h = ex (ev d) k_C_back 0 [aQ (some a), aI z0, aI z1, aU, aU] [] h := rfl
theorem u_C_read_0 : ex cal k_C_read 0 (aQ r :: ls) (st) h = ex cal k_C_read 1 (aQ r :: ls) (aQ r :: st) h := ex_st cal (s := s_ald 0 1) rfl rfl
theorem u_C_read_1 : ex cal k_C_read 1 (ls) (aQ (some a) :: st) h = gO h a 9 (ex cal k_C_read 4 (ls) (gf h a 0 :: st) h) := e_gf cal rfl
theorem u_C_read_4 : ex cal k_C_read 4 (x0 :: x1 :: aI v :: ls) (st) h = ex cal k_C_read 5 (x0 :: x1 :: aI v :: ls) (aI v :: st) h := ex_st cal (s := s_ild 2 5) rfl rfl
theorem u_C_read_5 (hl : Nat.ble st.length 4 = true) : ex cal k_C_read 5 (ls) (aI z0 :: aQ (some a) :: st) h = gO h a 7 (kk cal k_C_read 8 ls st (cal M_St_pageOf [aQ (some a), aI z0] h)) := e_callV cal (ci := 7) (as := [aI z0]) rfl (by decide) rfl (Nat.le_of_ble_eq_true hl)
theorem u_C_read_8 (hx : aNl x4 = true) : ex cal k_C_read 8 (x0 :: x1 :: x2 :: x3 :: x4 :: y :: ls) (aQ r :: st) h = ex cal k_C_read 10 (x0 :: x1 :: x2 :: x3 :: x4 :: aQ r :: ls) (st) h := e_ast (ls := x0 :: x1 :: x2 :: x3 :: x4 :: y :: ls) (k := 5) rfl hx (by simp only [List.length_cons]; omega)
theorem u_C_read_10 : ex cal k_C_read 10 (aQ r :: ls) (st) h = ex cal k_C_read 11 (aQ r :: ls) (aQ r :: st) h := ex_st cal (s := s_ald 0 11) rfl rfl
theorem u_C_read_11 : ex cal k_C_read 11 (ls) (aQ (some a) :: st) h = gO h a 9 (ex cal k_C_read 14 (ls) (gf h a 0 :: st) h) := e_gf cal rfl
theorem u_C_read_14 : ex cal k_C_read 14 (x0 :: aI v :: ls) (st) h = ex cal k_C_read 15 (x0 :: aI v :: ls) (aI v :: st) h := ex_st cal (s := s_ild 1 15) rfl rfl
theorem u_C_read_15 (hl : Nat.ble st.length 4 = true) : ex cal k_C_read 15 (ls) (aI z0 :: aQ (some a) :: st) h = gO h a 7 (kk cal k_C_read 18 ls st (cal M_St_isPerson [aQ (some a), aI z0] h)) := e_callV cal (ci := 7) (as := [aI z0]) rfl (by decide) rfl (Nat.le_of_ble_eq_true hl)
theorem u_C_read_18 : ex cal k_C_read 18 (ls) (aI i :: st) h = if wr i = 0 then ex cal k_C_read 46 (ls) (st) h else ex cal k_C_read 21 (ls) (st) h := e_ifeq cal rfl
theorem u_C_read_21 : ex cal k_C_read 21 (x0 :: x1 :: x2 :: x3 :: x4 :: aQ r :: ls) (st) h = ex cal k_C_read 23 (x0 :: x1 :: x2 :: x3 :: x4 :: aQ r :: ls) (aQ r :: st) h := ex_st cal (s := s_ald 5 23) rfl rfl
theorem u_C_read_23 : ex cal k_C_read 23 (ls) (aQ r :: st) h = if r = none then ex cal k_C_read 46 (ls) (st) h else ex cal k_C_read 26 (ls) (st) h := e_nul cal rfl
theorem u_C_read_26 : ex cal k_C_read 26 (x0 :: x1 :: x2 :: aI v :: ls) (st) h = ex cal k_C_read 27 (x0 :: x1 :: x2 :: aI v :: ls) (aI v :: st) h := ex_st cal (s := s_ild 3 27) rfl rfl
theorem u_C_read_27 : ex cal k_C_read 27 (ls) (aI i :: st) h = if wr i < 0 then ex cal k_C_read 46 (ls) (st) h else ex cal k_C_read 30 (ls) (st) h := e_iflt cal rfl
theorem u_C_read_30 : ex cal k_C_read 30 (x0 :: x1 :: x2 :: x3 :: aI v :: ls) (st) h = ex cal k_C_read 32 (x0 :: x1 :: x2 :: x3 :: aI v :: ls) (aI v :: st) h := ex_st cal (s := s_ild 4 32) rfl rfl
theorem u_C_read_32 : ex cal k_C_read 32 (x0 :: x1 :: x2 :: x3 :: x4 :: aQ r :: ls) (st) h = ex cal k_C_read 34 (x0 :: x1 :: x2 :: x3 :: x4 :: aQ r :: ls) (aQ r :: st) h := ex_st cal (s := s_ald 5 34) rfl rfl
theorem u_C_read_34 (hl : Nat.ble st.length 4 = true) : ex cal k_C_read 34 (ls) (aQ (some a) :: st) h = gO h a 4 (kk cal k_C_read 37 ls st (cal M_Pg_size [aQ (some a)] h)) := e_callV cal (ci := 4) (as := []) rfl (by decide) rfl (Nat.le_of_ble_eq_true hl)
theorem u_C_read_37 : ex cal k_C_read 37 (ls) (aI j :: aI i :: st) h = if wr i < wr j then ex cal k_C_read 40 (ls) (st) h else ex cal k_C_read 46 (ls) (st) h := e_icge cal rfl
theorem u_C_read_40 : ex cal k_C_read 40 (x0 :: x1 :: x2 :: aI v :: ls) (st) h = ex cal k_C_read 41 (x0 :: x1 :: x2 :: aI v :: ls) (aI v :: st) h := ex_st cal (s := s_ild 3 41) rfl rfl
theorem u_C_read_41 : ex cal k_C_read 41 (x0 :: x1 :: x2 :: x3 :: aI v :: ls) (st) h = ex cal k_C_read 43 (x0 :: x1 :: x2 :: x3 :: aI v :: ls) (aI v :: st) h := ex_st cal (s := s_ild 4 43) rfl rfl
theorem u_C_read_43 : ex cal k_C_read 43 (ls) (aI j :: aI i :: st) h = if wr j < wr i then ex cal k_C_read 46 (ls) (st) h else ex cal k_C_read 52 (ls) (st) h := e_icle cal rfl
theorem u_C_read_46 : ex cal k_C_read 46 (aQ r :: ls) (st) h = ex cal k_C_read 47 (aQ r :: ls) (aQ r :: st) h := ex_st cal (s := s_ald 0 47) rfl rfl
theorem u_C_read_47 : ex cal k_C_read 47 (ls) (st) h = ex cal k_C_read 48 (ls) (aI 1 :: st) h := e_push cal rfl
theorem u_C_read_48 (hl : Nat.ble st.length 4 = true) : ex cal k_C_read 48 (ls) (aI z0 :: aQ (some a) :: st) h = gO h a 9 (kk cal k_C_read 51 ls st (cal M_C_refused [aQ (some a), aI z0] h)) := e_callV cal (ci := 9) (as := [aI z0]) rfl (by decide) rfl (Nat.le_of_ble_eq_true hl)
theorem u_C_read_51 : ex cal k_C_read 51 (ls) ([aI v]) h = some (some (aI v), h) := e_ret1 cal rfl
theorem u_C_read_52 : ex cal k_C_read 52 (aQ r :: ls) (st) h = ex cal k_C_read 53 (aQ r :: ls) (aQ r :: st) h := ex_st cal (s := s_ald 0 53) rfl rfl
theorem u_C_read_53 : ex cal k_C_read 53 (ls) (aQ (some a) :: st) h = gO h a 9 (ex cal k_C_read 56 (ls) (gf h a 0 :: st) h) := e_gf cal rfl
theorem u_C_read_56 : ex cal k_C_read 56 (x0 :: aI v :: ls) (st) h = ex cal k_C_read 57 (x0 :: aI v :: ls) (aI v :: st) h := ex_st cal (s := s_ild 1 57) rfl rfl
theorem u_C_read_57 (hl : Nat.ble st.length 4 = true) : ex cal k_C_read 57 (ls) (aI z0 :: aQ (some a) :: st) h = gO h a 7 (kk cal k_C_read 60 ls st (cal M_St_isHere [aQ (some a), aI z0] h)) := e_callV cal (ci := 7) (as := [aI z0]) rfl (by decide) rfl (Nat.le_of_ble_eq_true hl)
theorem u_C_read_60 : ex cal k_C_read 60 (ls) (aI i :: st) h = if wr i = 0 then ex cal k_C_read 63 (ls) (st) h else ex cal k_C_read 69 (ls) (st) h := e_ifne cal rfl
theorem u_C_read_63 : ex cal k_C_read 63 (aQ r :: ls) (st) h = ex cal k_C_read 64 (aQ r :: ls) (aQ r :: st) h := ex_st cal (s := s_ald 0 64) rfl rfl
theorem u_C_read_64 : ex cal k_C_read 64 (ls) (st) h = ex cal k_C_read 65 (ls) (aI 3 :: st) h := e_push cal rfl
theorem u_C_read_65 (hl : Nat.ble st.length 4 = true) : ex cal k_C_read 65 (ls) (aI z0 :: aQ (some a) :: st) h = gO h a 9 (kk cal k_C_read 68 ls st (cal M_C_refused [aQ (some a), aI z0] h)) := e_callV cal (ci := 9) (as := [aI z0]) rfl (by decide) rfl (Nat.le_of_ble_eq_true hl)
theorem u_C_read_68 : ex cal k_C_read 68 (ls) ([aI v]) h = some (some (aI v), h) := e_ret1 cal rfl
theorem u_C_read_69 : ex cal k_C_read 69 (aQ r :: ls) (st) h = ex cal k_C_read 70 (aQ r :: ls) (aQ r :: st) h := ex_st cal (s := s_ald 0 70) rfl rfl
theorem u_C_read_70 : ex cal k_C_read 70 (ls) (aQ (some a) :: st) h = gO h a 9 (ex cal k_C_read 73 (ls) (gf h a 0 :: st) h) := e_gf cal rfl
theorem u_C_read_73 : ex cal k_C_read 73 (ls) (aQ (some a) :: st) h = gO h a 7 (ex cal k_C_read 76 (ls) (gf h a 7 :: st) h) := e_gf cal rfl
theorem u_C_read_76 : ex cal k_C_read 76 (x0 :: x1 :: aI v :: ls) (st) h = ex cal k_C_read 77 (x0 :: x1 :: aI v :: ls) (aI v :: st) h := ex_st cal (s := s_ild 2 77) rfl rfl
theorem u_C_read_77 : ex cal k_C_read 77 (x0 :: x1 :: x2 :: x3 :: x4 :: aQ r :: ls) (st) h = ex cal k_C_read 79 (x0 :: x1 :: x2 :: x3 :: x4 :: aQ r :: ls) (aQ r :: st) h := ex_st cal (s := s_ald 5 79) rfl rfl
theorem u_C_read_79 : ex cal k_C_read 79 (x0 :: aI v :: ls) (st) h = ex cal k_C_read 80 (x0 :: aI v :: ls) (aI v :: st) h := ex_st cal (s := s_ild 1 80) rfl rfl
theorem u_C_read_80 : ex cal k_C_read 80 (aQ r :: ls) (st) h = ex cal k_C_read 81 (aQ r :: ls) (aQ r :: st) h := ex_st cal (s := s_ald 0 81) rfl rfl
theorem u_C_read_81 : ex cal k_C_read 81 (ls) (aQ (some a) :: st) h = gO h a 9 (ex cal k_C_read 84 (ls) (gf h a 0 :: st) h) := e_gf cal rfl
theorem u_C_read_84 : ex cal k_C_read 84 (ls) (aQ (some a) :: st) h = gO h a 7 (ex cal k_C_read 87 (ls) (gf h a 3 :: st) h) := e_gf cal rfl
theorem u_C_read_87 : ex cal k_C_read 87 (x0 :: x1 :: x2 :: aI v :: ls) (st) h = ex cal k_C_read 88 (x0 :: x1 :: x2 :: aI v :: ls) (aI v :: st) h := ex_st cal (s := s_ild 3 88) rfl rfl
theorem u_C_read_88 : ex cal k_C_read 88 (x0 :: x1 :: x2 :: x3 :: aI v :: ls) (st) h = ex cal k_C_read 90 (x0 :: x1 :: x2 :: x3 :: aI v :: ls) (aI v :: st) h := ex_st cal (s := s_ild 4 90) rfl rfl
theorem u_C_read_90 (hl : Nat.ble st.length 4 = true) : ex cal k_C_read 90 (ls) (aI z3 :: aI z2 :: aI z1 :: aI z0 :: aQ (some a) :: st) h = gO h a 4 (kk cal k_C_read 93 ls st (cal M_Pg_readBy [aQ (some a), aI z0, aI z1, aI z2, aI z3] h)) := e_callV cal (ci := 4) (as := [aI z3, aI z2, aI z1, aI z0]) rfl (by decide) rfl (Nat.le_of_ble_eq_true hl)
theorem u_C_read_93 : ex cal k_C_read 93 (ls) (aQ r :: aI i :: aQ (some a) :: st) h = gR h a 0 i (gB (okQ h 0 r) (ex cal k_C_read 94 (ls) (st) (sr h a (upf (ra h a) (wr i) r)))) := e_ras cal rfl
theorem u_C_read_94 : ex cal k_C_read 94 (aQ r :: ls) (st) h = ex cal k_C_read 95 (aQ r :: ls) (aQ r :: st) h := ex_st cal (s := s_ald 0 95) rfl rfl
theorem u_C_read_95 : ex cal k_C_read 95 (x0 :: x1 :: x2 :: x3 :: aI v :: ls) (st) h = ex cal k_C_read 97 (x0 :: x1 :: x2 :: x3 :: aI v :: ls) (aI v :: st) h := ex_st cal (s := s_ild 4 97) rfl rfl
theorem u_C_read_97 : ex cal k_C_read 97 (x0 :: x1 :: x2 :: aI v :: ls) (st) h = ex cal k_C_read 98 (x0 :: x1 :: x2 :: aI v :: ls) (aI v :: st) h := ex_st cal (s := s_ild 3 98) rfl rfl
theorem u_C_read_98 : ex cal k_C_read 98 (ls) (aI j :: aI i :: st) h = ex cal k_C_read 99 (ls) (aI (i - j) :: st) h := e_bin cal rfl
theorem u_C_read_99 : ex cal k_C_read 99 (ls) (st) h = ex cal k_C_read 100 (ls) (aI 1 :: st) h := e_push cal rfl
theorem u_C_read_100 : ex cal k_C_read 100 (ls) (aI j :: aI i :: st) h = ex cal k_C_read 101 (ls) (aI (i + j) :: st) h := e_bin cal rfl
theorem u_C_read_101 (hl : Nat.ble st.length 4 = true) : ex cal k_C_read 101 (ls) (aI z0 :: aQ (some a) :: st) h = gO h a 9 (kk cal k_C_read 104 ls st (cal M_C_done [aQ (some a), aI z0] h)) := e_callV cal (ci := 9) (as := [aI z0]) rfl (by decide) rfl (Nat.le_of_ble_eq_true hl)
theorem u_C_read_104 : ex cal k_C_read 104 (ls) ([aI v]) h = some (some (aI v), h) := e_ret1 cal rfl
theorem n_C_read (d : Nat) : ev (d + 1) M_C_read [aQ (some a), aI z0, aI z1, aI z2, aI z3] h = ex (ev d) k_C_read 0 [aQ (some a), aI z0, aI z1, aI z2, aI z3, aU] [] h := rfl
theorem u_C_image_0 : ex cal k_C_image 0 (aQ r :: ls) (st) h = ex cal k_C_image 1 (aQ r :: ls) (aQ r :: st) h := ex_st cal (s := s_ald 0 1) rfl rfl
theorem u_C_image_1 : ex cal k_C_image 1 (ls) (aQ (some a) :: st) h = gO h a 9 (ex cal k_C_image 4 (ls) (gf h a 1 :: st) h) := e_gf cal rfl
theorem u_C_image_4 : ex cal k_C_image 4 (aQ r :: ls) (st) h = ex cal k_C_image 5 (aQ r :: ls) (aQ r :: st) h := ex_st cal (s := s_ald 0 5) rfl rfl
theorem u_C_image_5 : ex cal k_C_image 5 (ls) (aQ (some a) :: st) h = gO h a 9 (ex cal k_C_image 8 (ls) (gf h a 0 :: st) h) := e_gf cal rfl
theorem u_C_image_8 (hl : Nat.ble st.length 4 = true) : ex cal k_C_image 8 (ls) (aQ r0 :: aQ (some a) :: st) h = gO h a 7 (kk cal k_C_image 11 ls st (cal M_St_become [aQ (some a), aQ r0] h)) := e_callV cal (ci := 7) (as := [aQ r0]) rfl (by decide) rfl (Nat.le_of_ble_eq_true hl)
theorem u_C_image_11 : ex cal k_C_image 11 (aQ r :: ls) (st) h = ex cal k_C_image 12 (aQ r :: ls) (aQ r :: st) h := ex_st cal (s := s_ald 0 12) rfl rfl
theorem u_C_image_12 : ex cal k_C_image 12 (ls) (st) h = ex cal k_C_image 13 (ls) (aI 1 :: st) h := e_push cal rfl
theorem u_C_image_13 (hv : v = 0 ∨ v = 1) : ex cal k_C_image 13 (ls) (aI v :: aQ (some a) :: st) h = gO h a 9 (ex cal k_C_image 16 (ls) (st) (pf h a 7 (aI v))) := e_pf1 rfl (okT1 hv)
theorem u_C_image_16 : ex cal k_C_image 16 (aQ r :: ls) (st) h = ex cal k_C_image 17 (aQ r :: ls) (aQ r :: st) h := ex_st cal (s := s_ald 0 17) rfl rfl
theorem u_C_image_17 : ex cal k_C_image 17 (ls) (st) h = ex cal k_C_image 18 (ls) (aI 1 :: st) h := e_push cal rfl
theorem u_C_image_18 (hl : Nat.ble st.length 4 = true) : ex cal k_C_image 18 (ls) (aI z0 :: aQ (some a) :: st) h = gO h a 9 (kk cal k_C_image 21 ls st (cal M_C_done [aQ (some a), aI z0] h)) := e_callV cal (ci := 9) (as := [aI z0]) rfl (by decide) rfl (Nat.le_of_ble_eq_true hl)
theorem u_C_image_21 : ex cal k_C_image 21 (ls) ([aI v]) h = some (some (aI v), h) := e_ret1 cal rfl
theorem n_C_image (d : Nat) : ev (d + 1) M_C_image [aQ (some a)] h = ex (ev d) k_C_image 0 [aQ (some a)] [] h := rfl
theorem u_C_restore_0 : ex cal k_C_restore 0 (aQ r :: ls) (st) h = ex cal k_C_restore 1 (aQ r :: ls) (aQ r :: st) h := ex_st cal (s := s_ald 0 1) rfl rfl
theorem u_C_restore_1 : ex cal k_C_restore 1 (ls) (aQ (some a) :: st) h = gO h a 9 (ex cal k_C_restore 4 (ls) (gf h a 8 :: st) h) := e_gf cal rfl
theorem u_C_restore_4 : ex cal k_C_restore 4 (ls) (st) h = ex cal k_C_restore 6 (ls) (aI 10 :: st) h := e_push cal rfl
theorem u_C_restore_6 : ex cal k_C_restore 6 (ls) (aI j :: aI i :: st) h = if wr i < wr j then ex cal k_C_restore 15 (ls) (st) h else ex cal k_C_restore 9 (ls) (st) h := e_iclt cal rfl
theorem u_C_restore_9 : ex cal k_C_restore 9 (aQ r :: ls) (st) h = ex cal k_C_restore 10 (aQ r :: ls) (aQ r :: st) h := ex_st cal (s := s_ald 0 10) rfl rfl
theorem u_C_restore_10 : ex cal k_C_restore 10 (ls) (st) h = ex cal k_C_restore 11 (ls) (aI 2 :: st) h := e_push cal rfl
theorem u_C_restore_11 (hl : Nat.ble st.length 4 = true) : ex cal k_C_restore 11 (ls) (aI z0 :: aQ (some a) :: st) h = gO h a 9 (kk cal k_C_restore 14 ls st (cal M_C_refused [aQ (some a), aI z0] h)) := e_callV cal (ci := 9) (as := [aI z0]) rfl (by decide) rfl (Nat.le_of_ble_eq_true hl)
theorem u_C_restore_14 : ex cal k_C_restore 14 (ls) ([aI v]) h = some (some (aI v), h) := e_ret1 cal rfl
theorem u_C_restore_15 : ex cal k_C_restore 15 (aQ r :: ls) (st) h = ex cal k_C_restore 16 (aQ r :: ls) (aQ r :: st) h := ex_st cal (s := s_ald 0 16) rfl rfl
theorem u_C_restore_16 : ex cal k_C_restore 16 (ls) (aQ (some a) :: st) h = gO h a 9 (ex cal k_C_restore 19 (ls) (gf h a 7 :: st) h) := e_gf cal rfl
theorem u_C_restore_19 : ex cal k_C_restore 19 (ls) (aI i :: st) h = if wr i = 0 then ex cal k_C_restore 22 (ls) (st) h else ex cal k_C_restore 28 (ls) (st) h := e_ifne cal rfl
theorem u_C_restore_22 : ex cal k_C_restore 22 (aQ r :: ls) (st) h = ex cal k_C_restore 23 (aQ r :: ls) (aQ r :: st) h := ex_st cal (s := s_ald 0 23) rfl rfl
theorem u_C_restore_23 : ex cal k_C_restore 23 (ls) (st) h = ex cal k_C_restore 24 (ls) (aI 3 :: st) h := e_push cal rfl
theorem u_C_restore_24 (hl : Nat.ble st.length 4 = true) : ex cal k_C_restore 24 (ls) (aI z0 :: aQ (some a) :: st) h = gO h a 9 (kk cal k_C_restore 27 ls st (cal M_C_refused [aQ (some a), aI z0] h)) := e_callV cal (ci := 9) (as := [aI z0]) rfl (by decide) rfl (Nat.le_of_ble_eq_true hl)
theorem u_C_restore_27 : ex cal k_C_restore 27 (ls) ([aI v]) h = some (some (aI v), h) := e_ret1 cal rfl
theorem u_C_restore_28 : ex cal k_C_restore 28 (aQ r :: ls) (st) h = ex cal k_C_restore 29 (aQ r :: ls) (aQ r :: st) h := ex_st cal (s := s_ald 0 29) rfl rfl
theorem u_C_restore_29 : ex cal k_C_restore 29 (ls) (aQ (some a) :: st) h = gO h a 9 (ex cal k_C_restore 32 (ls) (gf h a 0 :: st) h) := e_gf cal rfl
theorem u_C_restore_32 : ex cal k_C_restore 32 (aQ r :: ls) (st) h = ex cal k_C_restore 33 (aQ r :: ls) (aQ r :: st) h := ex_st cal (s := s_ald 0 33) rfl rfl
theorem u_C_restore_33 : ex cal k_C_restore 33 (ls) (aQ (some a) :: st) h = gO h a 9 (ex cal k_C_restore 36 (ls) (gf h a 1 :: st) h) := e_gf cal rfl
theorem u_C_restore_36 (hl : Nat.ble st.length 4 = true) : ex cal k_C_restore 36 (ls) (aQ r0 :: aQ (some a) :: st) h = gO h a 7 (kk cal k_C_restore 39 ls st (cal M_St_become [aQ (some a), aQ r0] h)) := e_callV cal (ci := 7) (as := [aQ r0]) rfl (by decide) rfl (Nat.le_of_ble_eq_true hl)
theorem u_C_restore_39 : ex cal k_C_restore 39 (aQ r :: ls) (st) h = ex cal k_C_restore 40 (aQ r :: ls) (aQ r :: st) h := ex_st cal (s := s_ald 0 40) rfl rfl
theorem u_C_restore_40 (hx : aNl y = true) : ex cal k_C_restore 40 (ls) (y :: st) h = ex cal k_C_restore 41 (ls) (y :: y :: st) h := e_dup rfl hx
theorem u_C_restore_41 : ex cal k_C_restore 41 (ls) (aQ (some a) :: st) h = gO h a 9 (ex cal k_C_restore 44 (ls) (gf h a 8 :: st) h) := e_gf cal rfl
theorem u_C_restore_44 : ex cal k_C_restore 44 (ls) (st) h = ex cal k_C_restore 45 (ls) (aI 1 :: st) h := e_push cal rfl
theorem u_C_restore_45 : ex cal k_C_restore 45 (ls) (aI j :: aI i :: st) h = ex cal k_C_restore 46 (ls) (aI (i + j) :: st) h := e_bin cal rfl
theorem u_C_restore_46 : ex cal k_C_restore 46 (ls) (aI v :: aQ (some a) :: st) h = gO h a 9 (ex cal k_C_restore 49 (ls) (st) (pf h a 8 (aI v))) := e_pf1 rfl rfl
theorem u_C_restore_49 : ex cal k_C_restore 49 (aQ r :: ls) (st) h = ex cal k_C_restore 50 (aQ r :: ls) (aQ r :: st) h := ex_st cal (s := s_ald 0 50) rfl rfl
theorem u_C_restore_50 : ex cal k_C_restore 50 (aQ r :: ls) (st) h = ex cal k_C_restore 51 (aQ r :: ls) (aQ r :: st) h := ex_st cal (s := s_ald 0 51) rfl rfl
theorem u_C_restore_51 : ex cal k_C_restore 51 (ls) (aQ (some a) :: st) h = gO h a 9 (ex cal k_C_restore 54 (ls) (gf h a 0 :: st) h) := e_gf cal rfl
theorem u_C_restore_54 : ex cal k_C_restore 54 (ls) (aQ (some a) :: st) h = gO h a 7 (ex cal k_C_restore 57 (ls) (gf h a 3 :: st) h) := e_gf cal rfl
theorem u_C_restore_57 (hl : Nat.ble st.length 4 = true) : ex cal k_C_restore 57 (ls) (aI z0 :: aQ (some a) :: st) h = gO h a 9 (kk cal k_C_restore 60 ls st (cal M_C_done [aQ (some a), aI z0] h)) := e_callV cal (ci := 9) (as := [aI z0]) rfl (by decide) rfl (Nat.le_of_ble_eq_true hl)
theorem u_C_restore_60 : ex cal k_C_restore 60 (ls) ([aI v]) h = some (some (aI v), h) := e_ret1 cal rfl
theorem n_C_restore (d : Nat) : ev (d + 1) M_C_restore [aQ (some a)] h = ex (ev d) k_C_restore 0 [aQ (some a)] [] h := rfl
theorem u_C_lines_0 : ex cal k_C_lines 0 (aQ r :: ls) (st) h = ex cal k_C_lines 1 (aQ r :: ls) (aQ r :: st) h := ex_st cal (s := s_ald 0 1) rfl rfl
theorem u_C_lines_1 : ex cal k_C_lines 1 (ls) (aQ (some a) :: st) h = gO h a 9 (ex cal k_C_lines 4 (ls) (gf h a 0 :: st) h) := e_gf cal rfl
theorem u_C_lines_4 : ex cal k_C_lines 4 (x0 :: aI v :: ls) (st) h = ex cal k_C_lines 5 (x0 :: aI v :: ls) (aI v :: st) h := ex_st cal (s := s_ild 1 5) rfl rfl
theorem u_C_lines_5 (hl : Nat.ble st.length 4 = true) : ex cal k_C_lines 5 (ls) (aI z0 :: aQ (some a) :: st) h = gO h a 7 (kk cal k_C_lines 8 ls st (cal M_St_pageOf [aQ (some a), aI z0] h)) := e_callV cal (ci := 7) (as := [aI z0]) rfl (by decide) rfl (Nat.le_of_ble_eq_true hl)
theorem u_C_lines_8 (hx : aNl x1 = true) : ex cal k_C_lines 8 (x0 :: x1 :: y :: ls) (aQ r :: st) h = ex cal k_C_lines 9 (x0 :: x1 :: aQ r :: ls) (st) h := e_ast (ls := x0 :: x1 :: y :: ls) (k := 2) rfl hx (by simp only [List.length_cons]; omega)
theorem u_C_lines_9 : ex cal k_C_lines 9 (x0 :: x1 :: aQ r :: ls) (st) h = ex cal k_C_lines 10 (x0 :: x1 :: aQ r :: ls) (aQ r :: st) h := ex_st cal (s := s_ald 2 10) rfl rfl
theorem u_C_lines_10 : ex cal k_C_lines 10 (ls) (aQ r :: st) h = if r = none then ex cal k_C_lines 13 (ls) (st) h else ex cal k_C_lines 17 (ls) (st) h := e_nul cal rfl
theorem u_C_lines_13 : ex cal k_C_lines 13 (ls) (st) h = ex cal k_C_lines 14 (ls) (aI (-1) :: st) h := e_push cal rfl
theorem u_C_lines_14 : ex cal k_C_lines 14 (ls) (st) h = ex cal k_C_lines 21 (ls) (st) h := ex_st cal (s := s_go 21) rfl rfl
theorem u_C_lines_17 : ex cal k_C_lines 17 (x0 :: x1 :: aQ r :: ls) (st) h = ex cal k_C_lines 18 (x0 :: x1 :: aQ r :: ls) (aQ r :: st) h := ex_st cal (s := s_ald 2 18) rfl rfl
theorem u_C_lines_18 (hl : Nat.ble st.length 4 = true) : ex cal k_C_lines 18 (ls) (aQ (some a) :: st) h = gO h a 4 (kk cal k_C_lines 21 ls st (cal M_Pg_size [aQ (some a)] h)) := e_callV cal (ci := 4) (as := []) rfl (by decide) rfl (Nat.le_of_ble_eq_true hl)
theorem u_C_lines_21 : ex cal k_C_lines 21 (ls) ([aI v]) h = some (some (aI v), h) := e_ret1 cal rfl
theorem n_C_lines (d : Nat) : ev (d + 1) M_C_lines [aQ (some a), aI z0] h = ex (ev d) k_C_lines 0 [aQ (some a), aI z0, aU] [] h := rfl
theorem u_C_line_0 : ex cal k_C_line 0 (aQ r :: ls) (st) h = ex cal k_C_line 1 (aQ r :: ls) (aQ r :: st) h := ex_st cal (s := s_ald 0 1) rfl rfl
theorem u_C_line_1 : ex cal k_C_line 1 (ls) (aQ (some a) :: st) h = gO h a 9 (ex cal k_C_line 4 (ls) (gf h a 0 :: st) h) := e_gf cal rfl
theorem u_C_line_4 : ex cal k_C_line 4 (x0 :: aI v :: ls) (st) h = ex cal k_C_line 5 (x0 :: aI v :: ls) (aI v :: st) h := ex_st cal (s := s_ild 1 5) rfl rfl
theorem u_C_line_5 : ex cal k_C_line 5 (x0 :: x1 :: aI v :: ls) (st) h = ex cal k_C_line 6 (x0 :: x1 :: aI v :: ls) (aI v :: st) h := ex_st cal (s := s_ild 2 6) rfl rfl
theorem u_C_line_6 (hl : Nat.ble st.length 4 = true) : ex cal k_C_line 6 (ls) (aI z1 :: aI z0 :: aQ (some a) :: st) h = gO h a 7 (kk cal k_C_line 9 ls st (cal M_St_lineOf [aQ (some a), aI z0, aI z1] h)) := e_callV cal (ci := 7) (as := [aI z1, aI z0]) rfl (by decide) rfl (Nat.le_of_ble_eq_true hl)
theorem u_C_line_9 (hx : aNl x3 = true) : ex cal k_C_line 9 (x0 :: x1 :: x2 :: x3 :: y :: ls) (aQ r :: st) h = ex cal k_C_line 11 (x0 :: x1 :: x2 :: x3 :: aQ r :: ls) (st) h := e_ast (ls := x0 :: x1 :: x2 :: x3 :: y :: ls) (k := 4) rfl hx (by simp only [List.length_cons]; omega)
theorem u_C_line_11 : ex cal k_C_line 11 (x0 :: x1 :: x2 :: x3 :: aQ r :: ls) (st) h = ex cal k_C_line 13 (x0 :: x1 :: x2 :: x3 :: aQ r :: ls) (aQ r :: st) h := ex_st cal (s := s_ald 4 13) rfl rfl
theorem u_C_line_13 : ex cal k_C_line 13 (ls) (aQ r :: st) h = if r = none then ex cal k_C_line 16 (ls) (st) h else ex cal k_C_line 18 (ls) (st) h := e_nul cal rfl
theorem u_C_line_16 : ex cal k_C_line 16 (ls) (st) h = ex cal k_C_line 17 (ls) (aI (-1) :: st) h := e_push cal rfl
theorem u_C_line_17 : ex cal k_C_line 17 (ls) ([aI v]) h = some (some (aI v), h) := e_ret1 cal rfl
theorem u_C_line_18 : ex cal k_C_line 18 (x0 :: x1 :: x2 :: aI v :: ls) (st) h = ex cal k_C_line 19 (x0 :: x1 :: x2 :: aI v :: ls) (aI v :: st) h := ex_st cal (s := s_ild 3 19) rfl rfl
theorem u_C_line_19 : ex cal k_C_line 19 (ls) (aI i :: st) h = ex cal k_C_line (swt [(0, 44), (1, 50), (2, 56)] 62 (wr i)) ls st h := e_sw cal rfl
theorem u_C_line_44 : ex cal k_C_line 44 (x0 :: x1 :: x2 :: x3 :: aQ r :: ls) (st) h = ex cal k_C_line 46 (x0 :: x1 :: x2 :: x3 :: aQ r :: ls) (aQ r :: st) h := ex_st cal (s := s_ald 4 46) rfl rfl
theorem u_C_line_46 : ex cal k_C_line 46 (ls) (aQ (some a) :: st) h = gO h a 3 (ex cal k_C_line 49 (ls) (gf h a 0 :: st) h) := e_gf cal rfl
theorem u_C_line_49 : ex cal k_C_line 49 (ls) ([aI v]) h = some (some (aI v), h) := e_ret1 cal rfl
theorem u_C_line_50 : ex cal k_C_line 50 (x0 :: x1 :: x2 :: x3 :: aQ r :: ls) (st) h = ex cal k_C_line 52 (x0 :: x1 :: x2 :: x3 :: aQ r :: ls) (aQ r :: st) h := ex_st cal (s := s_ald 4 52) rfl rfl
theorem u_C_line_52 : ex cal k_C_line 52 (ls) (aQ (some a) :: st) h = gO h a 3 (ex cal k_C_line 55 (ls) (gf h a 1 :: st) h) := e_gf cal rfl
theorem u_C_line_55 : ex cal k_C_line 55 (ls) ([aI v]) h = some (some (aI v), h) := e_ret1 cal rfl
theorem u_C_line_56 : ex cal k_C_line 56 (x0 :: x1 :: x2 :: x3 :: aQ r :: ls) (st) h = ex cal k_C_line 58 (x0 :: x1 :: x2 :: x3 :: aQ r :: ls) (aQ r :: st) h := ex_st cal (s := s_ald 4 58) rfl rfl
theorem u_C_line_58 (hl : Nat.ble st.length 4 = true) : ex cal k_C_line 58 (ls) (aQ (some a) :: st) h = gO h a 3 (kk cal k_C_line 61 ls st (cal M_Li_markCount [aQ (some a)] h)) := e_callV cal (ci := 3) (as := []) rfl (by decide) rfl (Nat.le_of_ble_eq_true hl)
theorem u_C_line_61 : ex cal k_C_line 61 (ls) ([aI v]) h = some (some (aI v), h) := e_ret1 cal rfl
theorem u_C_line_62 : ex cal k_C_line 62 (ls) (st) h = ex cal k_C_line 63 (ls) (aI (-1) :: st) h := e_push cal rfl
theorem u_C_line_63 : ex cal k_C_line 63 (ls) ([aI v]) h = some (some (aI v), h) := e_ret1 cal rfl
theorem n_C_line (d : Nat) : ev (d + 1) M_C_line [aQ (some a), aI z0, aI z1, aI z2] h = ex (ev d) k_C_line 0 [aQ (some a), aI z0, aI z1, aI z2, aU] [] h := rfl
theorem u_C_mark_0 : ex cal k_C_mark 0 (aQ r :: ls) (st) h = ex cal k_C_mark 1 (aQ r :: ls) (aQ r :: st) h := ex_st cal (s := s_ald 0 1) rfl rfl
theorem u_C_mark_1 : ex cal k_C_mark 1 (ls) (aQ (some a) :: st) h = gO h a 9 (ex cal k_C_mark 4 (ls) (gf h a 0 :: st) h) := e_gf cal rfl
theorem u_C_mark_4 : ex cal k_C_mark 4 (x0 :: aI v :: ls) (st) h = ex cal k_C_mark 5 (x0 :: aI v :: ls) (aI v :: st) h := ex_st cal (s := s_ild 1 5) rfl rfl
theorem u_C_mark_5 : ex cal k_C_mark 5 (x0 :: x1 :: aI v :: ls) (st) h = ex cal k_C_mark 6 (x0 :: x1 :: aI v :: ls) (aI v :: st) h := ex_st cal (s := s_ild 2 6) rfl rfl
theorem u_C_mark_6 (hl : Nat.ble st.length 4 = true) : ex cal k_C_mark 6 (ls) (aI z1 :: aI z0 :: aQ (some a) :: st) h = gO h a 7 (kk cal k_C_mark 9 ls st (cal M_St_lineOf [aQ (some a), aI z0, aI z1] h)) := e_callV cal (ci := 7) (as := [aI z1, aI z0]) rfl (by decide) rfl (Nat.le_of_ble_eq_true hl)
theorem u_C_mark_9 (hx : aNl x4 = true) : ex cal k_C_mark 9 (x0 :: x1 :: x2 :: x3 :: x4 :: y :: ls) (aQ r :: st) h = ex cal k_C_mark 11 (x0 :: x1 :: x2 :: x3 :: x4 :: aQ r :: ls) (st) h := e_ast (ls := x0 :: x1 :: x2 :: x3 :: x4 :: y :: ls) (k := 5) rfl hx (by simp only [List.length_cons]; omega)
theorem u_C_mark_11 : ex cal k_C_mark 11 (x0 :: x1 :: x2 :: x3 :: x4 :: aQ r :: ls) (st) h = ex cal k_C_mark 13 (x0 :: x1 :: x2 :: x3 :: x4 :: aQ r :: ls) (aQ r :: st) h := ex_st cal (s := s_ald 5 13) rfl rfl
theorem u_C_mark_13 : ex cal k_C_mark 13 (ls) (aQ r :: st) h = if r = none then ex cal k_C_mark 16 (ls) (st) h else ex cal k_C_mark 20 (ls) (st) h := e_nul cal rfl
theorem u_C_mark_16 : ex cal k_C_mark 16 (ls) (st) h = ex cal k_C_mark 17 (ls) (aI (-1) :: st) h := e_push cal rfl
theorem u_C_mark_17 : ex cal k_C_mark 17 (ls) (st) h = ex cal k_C_mark 28 (ls) (st) h := ex_st cal (s := s_go 28) rfl rfl
theorem u_C_mark_20 : ex cal k_C_mark 20 (x0 :: x1 :: x2 :: x3 :: x4 :: aQ r :: ls) (st) h = ex cal k_C_mark 22 (x0 :: x1 :: x2 :: x3 :: x4 :: aQ r :: ls) (aQ r :: st) h := ex_st cal (s := s_ald 5 22) rfl rfl
theorem u_C_mark_22 : ex cal k_C_mark 22 (x0 :: x1 :: x2 :: aI v :: ls) (st) h = ex cal k_C_mark 23 (x0 :: x1 :: x2 :: aI v :: ls) (aI v :: st) h := ex_st cal (s := s_ild 3 23) rfl rfl
theorem u_C_mark_23 : ex cal k_C_mark 23 (x0 :: x1 :: x2 :: x3 :: aI v :: ls) (st) h = ex cal k_C_mark 25 (x0 :: x1 :: x2 :: x3 :: aI v :: ls) (aI v :: st) h := ex_st cal (s := s_ild 4 25) rfl rfl
theorem u_C_mark_25 (hl : Nat.ble st.length 4 = true) : ex cal k_C_mark 25 (ls) (aI z1 :: aI z0 :: aQ (some a) :: st) h = gO h a 3 (kk cal k_C_mark 28 ls st (cal M_Li_markTold [aQ (some a), aI z0, aI z1] h)) := e_callV cal (ci := 3) (as := [aI z1, aI z0]) rfl (by decide) rfl (Nat.le_of_ble_eq_true hl)
theorem u_C_mark_28 : ex cal k_C_mark 28 (ls) ([aI v]) h = some (some (aI v), h) := e_ret1 cal rfl
theorem n_C_mark (d : Nat) : ev (d + 1) M_C_mark [aQ (some a), aI z0, aI z1, aI z2, aI z3] h = ex (ev d) k_C_mark 0 [aQ (some a), aI z0, aI z1, aI z2, aI z3, aU] [] h := rfl
theorem u_C_changeTold_0 : ex cal k_C_changeTold 0 (aQ r :: ls) (st) h = ex cal k_C_changeTold 1 (aQ r :: ls) (aQ r :: st) h := ex_st cal (s := s_ald 0 1) rfl rfl
theorem u_C_changeTold_1 : ex cal k_C_changeTold 1 (ls) (aQ (some a) :: st) h = gO h a 9 (ex cal k_C_changeTold 4 (ls) (gf h a 0 :: st) h) := e_gf cal rfl
theorem u_C_changeTold_4 : ex cal k_C_changeTold 4 (x0 :: aI v :: ls) (st) h = ex cal k_C_changeTold 5 (x0 :: aI v :: ls) (aI v :: st) h := ex_st cal (s := s_ild 1 5) rfl rfl
theorem u_C_changeTold_5 (hl : Nat.ble st.length 4 = true) : ex cal k_C_changeTold 5 (ls) (aI z0 :: aQ (some a) :: st) h = gO h a 7 (kk cal k_C_changeTold 8 ls st (cal M_St_changeOf [aQ (some a), aI z0] h)) := e_callV cal (ci := 7) (as := [aI z0]) rfl (by decide) rfl (Nat.le_of_ble_eq_true hl)
theorem u_C_changeTold_8 (hx : aNl x2 = true) : ex cal k_C_changeTold 8 (x0 :: x1 :: x2 :: y :: ls) (aQ r :: st) h = ex cal k_C_changeTold 9 (x0 :: x1 :: x2 :: aQ r :: ls) (st) h := e_ast (ls := x0 :: x1 :: x2 :: y :: ls) (k := 3) rfl hx (by simp only [List.length_cons]; omega)
theorem u_C_changeTold_9 : ex cal k_C_changeTold 9 (x0 :: x1 :: x2 :: aQ r :: ls) (st) h = ex cal k_C_changeTold 10 (x0 :: x1 :: x2 :: aQ r :: ls) (aQ r :: st) h := ex_st cal (s := s_ald 3 10) rfl rfl
theorem u_C_changeTold_10 : ex cal k_C_changeTold 10 (ls) (aQ r :: st) h = if r = none then ex cal k_C_changeTold 13 (ls) (st) h else ex cal k_C_changeTold 15 (ls) (st) h := e_nul cal rfl
theorem u_C_changeTold_13 : ex cal k_C_changeTold 13 (ls) (st) h = ex cal k_C_changeTold 14 (ls) (aI (-1) :: st) h := e_push cal rfl
theorem u_C_changeTold_14 : ex cal k_C_changeTold 14 (ls) ([aI v]) h = some (some (aI v), h) := e_ret1 cal rfl
theorem u_C_changeTold_15 : ex cal k_C_changeTold 15 (x0 :: x1 :: aI v :: ls) (st) h = ex cal k_C_changeTold 16 (x0 :: x1 :: aI v :: ls) (aI v :: st) h := ex_st cal (s := s_ild 2 16) rfl rfl
theorem u_C_changeTold_16 : ex cal k_C_changeTold 16 (ls) (aI i :: st) h = ex cal k_C_changeTold (swt [(0, 64), (1, 69), (2, 74), (3, 79), (4, 84), (5, 89), (6, 94), (7, 102)] 111 (wr i)) ls st h := e_sw cal rfl
theorem u_C_changeTold_64 : ex cal k_C_changeTold 64 (x0 :: x1 :: x2 :: aQ r :: ls) (st) h = ex cal k_C_changeTold 65 (x0 :: x1 :: x2 :: aQ r :: ls) (aQ r :: st) h := ex_st cal (s := s_ald 3 65) rfl rfl
theorem u_C_changeTold_65 : ex cal k_C_changeTold 65 (ls) (aQ (some a) :: st) h = gO h a 1 (ex cal k_C_changeTold 68 (ls) (gf h a 1 :: st) h) := e_gf cal rfl
theorem u_C_changeTold_68 : ex cal k_C_changeTold 68 (ls) ([aI v]) h = some (some (aI v), h) := e_ret1 cal rfl
theorem u_C_changeTold_69 : ex cal k_C_changeTold 69 (x0 :: x1 :: x2 :: aQ r :: ls) (st) h = ex cal k_C_changeTold 70 (x0 :: x1 :: x2 :: aQ r :: ls) (aQ r :: st) h := ex_st cal (s := s_ald 3 70) rfl rfl
theorem u_C_changeTold_70 : ex cal k_C_changeTold 70 (ls) (aQ (some a) :: st) h = gO h a 1 (ex cal k_C_changeTold 73 (ls) (gf h a 2 :: st) h) := e_gf cal rfl
theorem u_C_changeTold_73 : ex cal k_C_changeTold 73 (ls) ([aI v]) h = some (some (aI v), h) := e_ret1 cal rfl
theorem u_C_changeTold_74 : ex cal k_C_changeTold 74 (x0 :: x1 :: x2 :: aQ r :: ls) (st) h = ex cal k_C_changeTold 75 (x0 :: x1 :: x2 :: aQ r :: ls) (aQ r :: st) h := ex_st cal (s := s_ald 3 75) rfl rfl
theorem u_C_changeTold_75 : ex cal k_C_changeTold 75 (ls) (aQ (some a) :: st) h = gO h a 1 (ex cal k_C_changeTold 78 (ls) (gf h a 3 :: st) h) := e_gf cal rfl
theorem u_C_changeTold_78 : ex cal k_C_changeTold 78 (ls) ([aI v]) h = some (some (aI v), h) := e_ret1 cal rfl
theorem u_C_changeTold_79 : ex cal k_C_changeTold 79 (x0 :: x1 :: x2 :: aQ r :: ls) (st) h = ex cal k_C_changeTold 80 (x0 :: x1 :: x2 :: aQ r :: ls) (aQ r :: st) h := ex_st cal (s := s_ald 3 80) rfl rfl
theorem u_C_changeTold_80 : ex cal k_C_changeTold 80 (ls) (aQ (some a) :: st) h = gO h a 1 (ex cal k_C_changeTold 83 (ls) (gf h a 4 :: st) h) := e_gf cal rfl
theorem u_C_changeTold_83 : ex cal k_C_changeTold 83 (ls) ([aI v]) h = some (some (aI v), h) := e_ret1 cal rfl
theorem u_C_changeTold_84 : ex cal k_C_changeTold 84 (x0 :: x1 :: x2 :: aQ r :: ls) (st) h = ex cal k_C_changeTold 85 (x0 :: x1 :: x2 :: aQ r :: ls) (aQ r :: st) h := ex_st cal (s := s_ald 3 85) rfl rfl
theorem u_C_changeTold_85 : ex cal k_C_changeTold 85 (ls) (aQ (some a) :: st) h = gO h a 1 (ex cal k_C_changeTold 88 (ls) (gf h a 5 :: st) h) := e_gf cal rfl
theorem u_C_changeTold_88 : ex cal k_C_changeTold 88 (ls) ([aI v]) h = some (some (aI v), h) := e_ret1 cal rfl
theorem u_C_changeTold_89 : ex cal k_C_changeTold 89 (x0 :: x1 :: x2 :: aQ r :: ls) (st) h = ex cal k_C_changeTold 90 (x0 :: x1 :: x2 :: aQ r :: ls) (aQ r :: st) h := ex_st cal (s := s_ald 3 90) rfl rfl
theorem u_C_changeTold_90 : ex cal k_C_changeTold 90 (ls) (aQ (some a) :: st) h = gO h a 1 (ex cal k_C_changeTold 93 (ls) (gf h a 7 :: st) h) := e_gf cal rfl
theorem u_C_changeTold_93 : ex cal k_C_changeTold 93 (ls) ([aI v]) h = some (some (aI v), h) := e_ret1 cal rfl
theorem u_C_changeTold_94 : ex cal k_C_changeTold 94 (x0 :: x1 :: x2 :: aQ r :: ls) (st) h = ex cal k_C_changeTold 95 (x0 :: x1 :: x2 :: aQ r :: ls) (aQ r :: st) h := ex_st cal (s := s_ald 3 95) rfl rfl
theorem u_C_changeTold_95 : ex cal k_C_changeTold 95 (ls) (aQ (some a) :: st) h = gO h a 1 (ex cal k_C_changeTold 98 (ls) (gf h a 6 :: st) h) := e_gf cal rfl
theorem u_C_changeTold_98 (hl : Nat.ble st.length 4 = true) : ex cal k_C_changeTold 98 (ls) (aQ (some a) :: st) h = gO h a 4 (kk cal k_C_changeTold 101 ls st (cal M_Pg_size [aQ (some a)] h)) := e_callV cal (ci := 4) (as := []) rfl (by decide) rfl (Nat.le_of_ble_eq_true hl)
theorem u_C_changeTold_101 : ex cal k_C_changeTold 101 (ls) ([aI v]) h = some (some (aI v), h) := e_ret1 cal rfl
theorem u_C_changeTold_102 : ex cal k_C_changeTold 102 (aQ r :: ls) (st) h = ex cal k_C_changeTold 103 (aQ r :: ls) (aQ r :: st) h := ex_st cal (s := s_ald 0 103) rfl rfl
theorem u_C_changeTold_103 : ex cal k_C_changeTold 103 (ls) (aQ (some a) :: st) h = gO h a 9 (ex cal k_C_changeTold 106 (ls) (gf h a 0 :: st) h) := e_gf cal rfl
theorem u_C_changeTold_106 : ex cal k_C_changeTold 106 (x0 :: aI v :: ls) (st) h = ex cal k_C_changeTold 107 (x0 :: aI v :: ls) (aI v :: st) h := ex_st cal (s := s_ild 1 107) rfl rfl
theorem u_C_changeTold_107 (hl : Nat.ble st.length 4 = true) : ex cal k_C_changeTold 107 (ls) (aI z0 :: aQ (some a) :: st) h = gO h a 7 (kk cal k_C_changeTold 110 ls st (cal M_St_linesMadeBy [aQ (some a), aI z0] h)) := e_callV cal (ci := 7) (as := [aI z0]) rfl (by decide) rfl (Nat.le_of_ble_eq_true hl)
theorem u_C_changeTold_110 : ex cal k_C_changeTold 110 (ls) ([aI v]) h = some (some (aI v), h) := e_ret1 cal rfl
theorem u_C_changeTold_111 : ex cal k_C_changeTold 111 (ls) (st) h = ex cal k_C_changeTold 112 (ls) (aI (-1) :: st) h := e_push cal rfl
theorem u_C_changeTold_112 : ex cal k_C_changeTold 112 (ls) ([aI v]) h = some (some (aI v), h) := e_ret1 cal rfl
theorem n_C_changeTold (d : Nat) : ev (d + 1) M_C_changeTold [aQ (some a), aI z0, aI z1] h = ex (ev d) k_C_changeTold 0 [aQ (some a), aI z0, aI z1, aU] [] h := rfl
theorem u_C_points_0 : ex cal k_C_points 0 (aQ r :: ls) (st) h = ex cal k_C_points 1 (aQ r :: ls) (aQ r :: st) h := ex_st cal (s := s_ald 0 1) rfl rfl
theorem u_C_points_1 : ex cal k_C_points 1 (ls) (aQ (some a) :: st) h = gO h a 9 (ex cal k_C_points 4 (ls) (gf h a 0 :: st) h) := e_gf cal rfl
theorem u_C_points_4 : ex cal k_C_points 4 (x0 :: x1 :: aI v :: ls) (st) h = ex cal k_C_points 5 (x0 :: x1 :: aI v :: ls) (aI v :: st) h := ex_st cal (s := s_ild 2 5) rfl rfl
theorem u_C_points_5 : ex cal k_C_points 5 (x0 :: x1 :: x2 :: aI v :: ls) (st) h = ex cal k_C_points 6 (x0 :: x1 :: x2 :: aI v :: ls) (aI v :: st) h := ex_st cal (s := s_ild 3 6) rfl rfl
theorem u_C_points_6 (hl : Nat.ble st.length 4 = true) : ex cal k_C_points 6 (ls) (aI z1 :: aI z0 :: aQ (some a) :: st) h = gO h a 7 (kk cal k_C_points 9 ls st (cal M_St_lineOf [aQ (some a), aI z0, aI z1] h)) := e_callV cal (ci := 7) (as := [aI z1, aI z0]) rfl (by decide) rfl (Nat.le_of_ble_eq_true hl)
theorem u_C_points_9 (hx : aNl x3 = true) : ex cal k_C_points 9 (x0 :: x1 :: x2 :: x3 :: y :: ls) (aQ r :: st) h = ex cal k_C_points 11 (x0 :: x1 :: x2 :: x3 :: aQ r :: ls) (st) h := e_ast (ls := x0 :: x1 :: x2 :: x3 :: y :: ls) (k := 4) rfl hx (by simp only [List.length_cons]; omega)
theorem u_C_points_11 : ex cal k_C_points 11 (x0 :: x1 :: x2 :: x3 :: aQ r :: ls) (st) h = ex cal k_C_points 13 (x0 :: x1 :: x2 :: x3 :: aQ r :: ls) (aQ r :: st) h := ex_st cal (s := s_ald 4 13) rfl rfl
theorem u_C_points_13 : ex cal k_C_points 13 (ls) (aQ r :: st) h = if r = none then ex cal k_C_points 27 (ls) (st) h else ex cal k_C_points 16 (ls) (st) h := e_nul cal rfl
theorem u_C_points_16 : ex cal k_C_points 16 (aQ r :: ls) (st) h = ex cal k_C_points 17 (aQ r :: ls) (aQ r :: st) h := ex_st cal (s := s_ald 0 17) rfl rfl
theorem u_C_points_17 : ex cal k_C_points 17 (ls) (aQ (some a) :: st) h = gO h a 9 (ex cal k_C_points 20 (ls) (gf h a 0 :: st) h) := e_gf cal rfl
theorem u_C_points_20 : ex cal k_C_points 20 (x0 :: aI v :: ls) (st) h = ex cal k_C_points 21 (x0 :: aI v :: ls) (aI v :: st) h := ex_st cal (s := s_ild 1 21) rfl rfl
theorem u_C_points_21 (hl : Nat.ble st.length 4 = true) : ex cal k_C_points 21 (ls) (aI z0 :: aQ (some a) :: st) h = gO h a 7 (kk cal k_C_points 24 ls st (cal M_St_isPerson [aQ (some a), aI z0] h)) := e_callV cal (ci := 7) (as := [aI z0]) rfl (by decide) rfl (Nat.le_of_ble_eq_true hl)
theorem u_C_points_24 : ex cal k_C_points 24 (ls) (aI i :: st) h = if wr i = 0 then ex cal k_C_points 27 (ls) (st) h else ex cal k_C_points 31 (ls) (st) h := e_ifne cal rfl
theorem u_C_points_27 : ex cal k_C_points 27 (ls) (st) h = ex cal k_C_points 28 (ls) (aI (-1) :: st) h := e_push cal rfl
theorem u_C_points_28 : ex cal k_C_points 28 (ls) (st) h = ex cal k_C_points 45 (ls) (st) h := ex_st cal (s := s_go 45) rfl rfl
theorem u_C_points_31 : ex cal k_C_points 31 (x0 :: x1 :: x2 :: x3 :: aQ r :: ls) (st) h = ex cal k_C_points 33 (x0 :: x1 :: x2 :: x3 :: aQ r :: ls) (aQ r :: st) h := ex_st cal (s := s_ald 4 33) rfl rfl
theorem u_C_points_33 : ex cal k_C_points 33 (x0 :: aI v :: ls) (st) h = ex cal k_C_points 34 (x0 :: aI v :: ls) (aI v :: st) h := ex_st cal (s := s_ild 1 34) rfl rfl
theorem u_C_points_34 : ex cal k_C_points 34 (aQ r :: ls) (st) h = ex cal k_C_points 35 (aQ r :: ls) (aQ r :: st) h := ex_st cal (s := s_ald 0 35) rfl rfl
theorem u_C_points_35 : ex cal k_C_points 35 (ls) (aQ (some a) :: st) h = gO h a 9 (ex cal k_C_points 38 (ls) (gf h a 0 :: st) h) := e_gf cal rfl
theorem u_C_points_38 : ex cal k_C_points 38 (ls) (aQ (some a) :: st) h = gO h a 7 (ex cal k_C_points 41 (ls) (gf h a 3 :: st) h) := e_gf cal rfl
theorem u_C_points_41 : ex cal k_C_points 41 (ls) (st) h = ex cal k_C_points 42 (ls) (aI 0 :: st) h := e_push cal rfl
theorem u_C_points_42 (hl : Nat.ble st.length 4 = true) : ex cal k_C_points 42 (ls) (aI z2 :: aI z1 :: aI z0 :: aQ (some a) :: st) h = gO h a 3 (kk cal k_C_points 45 ls st (cal M_Li_pointsOf [aQ (some a), aI z0, aI z1, aI z2] h)) := e_callV cal (ci := 3) (as := [aI z2, aI z1, aI z0]) rfl (by decide) rfl (Nat.le_of_ble_eq_true hl)
theorem u_C_points_45 : ex cal k_C_points 45 (ls) ([aI v]) h = some (some (aI v), h) := e_ret1 cal rfl
theorem n_C_points (d : Nat) : ev (d + 1) M_C_points [aQ (some a), aI z0, aI z1, aI z2] h = ex (ev d) k_C_points 0 [aQ (some a), aI z0, aI z1, aI z2, aU] [] h := rfl
theorem u_C_knows_0 : ex cal k_C_knows 0 (aQ r :: ls) (st) h = ex cal k_C_knows 1 (aQ r :: ls) (aQ r :: st) h := ex_st cal (s := s_ald 0 1) rfl rfl
theorem u_C_knows_1 : ex cal k_C_knows 1 (ls) (aQ (some a) :: st) h = gO h a 9 (ex cal k_C_knows 4 (ls) (gf h a 0 :: st) h) := e_gf cal rfl
theorem u_C_knows_4 : ex cal k_C_knows 4 (x0 :: x1 :: aI v :: ls) (st) h = ex cal k_C_knows 5 (x0 :: x1 :: aI v :: ls) (aI v :: st) h := ex_st cal (s := s_ild 2 5) rfl rfl
theorem u_C_knows_5 (hl : Nat.ble st.length 4 = true) : ex cal k_C_knows 5 (ls) (aI z0 :: aQ (some a) :: st) h = gO h a 7 (kk cal k_C_knows 8 ls st (cal M_St_pageOf [aQ (some a), aI z0] h)) := e_callV cal (ci := 7) (as := [aI z0]) rfl (by decide) rfl (Nat.le_of_ble_eq_true hl)
theorem u_C_knows_8 (hx : aNl x2 = true) : ex cal k_C_knows 8 (x0 :: x1 :: x2 :: y :: ls) (aQ r :: st) h = ex cal k_C_knows 9 (x0 :: x1 :: x2 :: aQ r :: ls) (st) h := e_ast (ls := x0 :: x1 :: x2 :: y :: ls) (k := 3) rfl hx (by simp only [List.length_cons]; omega)
theorem u_C_knows_9 : ex cal k_C_knows 9 (x0 :: x1 :: x2 :: aQ r :: ls) (st) h = ex cal k_C_knows 10 (x0 :: x1 :: x2 :: aQ r :: ls) (aQ r :: st) h := ex_st cal (s := s_ald 3 10) rfl rfl
theorem u_C_knows_10 : ex cal k_C_knows 10 (ls) (aQ r :: st) h = if r = none then ex cal k_C_knows 24 (ls) (st) h else ex cal k_C_knows 13 (ls) (st) h := e_nul cal rfl
theorem u_C_knows_13 : ex cal k_C_knows 13 (aQ r :: ls) (st) h = ex cal k_C_knows 14 (aQ r :: ls) (aQ r :: st) h := ex_st cal (s := s_ald 0 14) rfl rfl
theorem u_C_knows_14 : ex cal k_C_knows 14 (ls) (aQ (some a) :: st) h = gO h a 9 (ex cal k_C_knows 17 (ls) (gf h a 0 :: st) h) := e_gf cal rfl
theorem u_C_knows_17 : ex cal k_C_knows 17 (x0 :: aI v :: ls) (st) h = ex cal k_C_knows 18 (x0 :: aI v :: ls) (aI v :: st) h := ex_st cal (s := s_ild 1 18) rfl rfl
theorem u_C_knows_18 (hl : Nat.ble st.length 4 = true) : ex cal k_C_knows 18 (ls) (aI z0 :: aQ (some a) :: st) h = gO h a 7 (kk cal k_C_knows 21 ls st (cal M_St_isPerson [aQ (some a), aI z0] h)) := e_callV cal (ci := 7) (as := [aI z0]) rfl (by decide) rfl (Nat.le_of_ble_eq_true hl)
theorem u_C_knows_21 : ex cal k_C_knows 21 (ls) (aI i :: st) h = if wr i = 0 then ex cal k_C_knows 24 (ls) (st) h else ex cal k_C_knows 28 (ls) (st) h := e_ifne cal rfl
theorem u_C_knows_24 : ex cal k_C_knows 24 (ls) (st) h = ex cal k_C_knows 25 (ls) (aI (-1) :: st) h := e_push cal rfl
theorem u_C_knows_25 : ex cal k_C_knows 25 (ls) (st) h = ex cal k_C_knows 40 (ls) (st) h := ex_st cal (s := s_go 40) rfl rfl
theorem u_C_knows_28 : ex cal k_C_knows 28 (x0 :: x1 :: x2 :: aQ r :: ls) (st) h = ex cal k_C_knows 29 (x0 :: x1 :: x2 :: aQ r :: ls) (aQ r :: st) h := ex_st cal (s := s_ald 3 29) rfl rfl
theorem u_C_knows_29 : ex cal k_C_knows 29 (x0 :: aI v :: ls) (st) h = ex cal k_C_knows 30 (x0 :: aI v :: ls) (aI v :: st) h := ex_st cal (s := s_ild 1 30) rfl rfl
theorem u_C_knows_30 : ex cal k_C_knows 30 (aQ r :: ls) (st) h = ex cal k_C_knows 31 (aQ r :: ls) (aQ r :: st) h := ex_st cal (s := s_ald 0 31) rfl rfl
theorem u_C_knows_31 : ex cal k_C_knows 31 (ls) (aQ (some a) :: st) h = gO h a 9 (ex cal k_C_knows 34 (ls) (gf h a 0 :: st) h) := e_gf cal rfl
theorem u_C_knows_34 : ex cal k_C_knows 34 (ls) (aQ (some a) :: st) h = gO h a 7 (ex cal k_C_knows 37 (ls) (gf h a 3 :: st) h) := e_gf cal rfl
theorem u_C_knows_37 (hl : Nat.ble st.length 4 = true) : ex cal k_C_knows 37 (ls) (aI z1 :: aI z0 :: aQ (some a) :: st) h = gO h a 4 (kk cal k_C_knows 40 ls st (cal M_Pg_knownBy [aQ (some a), aI z0, aI z1] h)) := e_callV cal (ci := 4) (as := [aI z1, aI z0]) rfl (by decide) rfl (Nat.le_of_ble_eq_true hl)
theorem u_C_knows_40 : ex cal k_C_knows 40 (ls) ([aI v]) h = some (some (aI v), h) := e_ret1 cal rfl
theorem n_C_knows (d : Nat) : ev (d + 1) M_C_knows [aQ (some a), aI z0, aI z1] h = ex (ev d) k_C_knows 0 [aQ (some a), aI z0, aI z1, aU] [] h := rfl
theorem u_C_able_0 : ex cal k_C_able 0 (aQ r :: ls) (st) h = ex cal k_C_able 1 (aQ r :: ls) (aQ r :: st) h := ex_st cal (s := s_ald 0 1) rfl rfl
theorem u_C_able_1 : ex cal k_C_able 1 (ls) (aQ (some a) :: st) h = gO h a 9 (ex cal k_C_able 4 (ls) (gf h a 0 :: st) h) := e_gf cal rfl
theorem u_C_able_4 : ex cal k_C_able 4 (x0 :: x1 :: aI v :: ls) (st) h = ex cal k_C_able 5 (x0 :: x1 :: aI v :: ls) (aI v :: st) h := ex_st cal (s := s_ild 2 5) rfl rfl
theorem u_C_able_5 (hl : Nat.ble st.length 4 = true) : ex cal k_C_able 5 (ls) (aI z0 :: aQ (some a) :: st) h = gO h a 7 (kk cal k_C_able 8 ls st (cal M_St_pageOf [aQ (some a), aI z0] h)) := e_callV cal (ci := 7) (as := [aI z0]) rfl (by decide) rfl (Nat.le_of_ble_eq_true hl)
theorem u_C_able_8 (hx : aNl x2 = true) : ex cal k_C_able 8 (x0 :: x1 :: x2 :: y :: ls) (aQ r :: st) h = ex cal k_C_able 9 (x0 :: x1 :: x2 :: aQ r :: ls) (st) h := e_ast (ls := x0 :: x1 :: x2 :: y :: ls) (k := 3) rfl hx (by simp only [List.length_cons]; omega)
theorem u_C_able_9 : ex cal k_C_able 9 (x0 :: x1 :: x2 :: aQ r :: ls) (st) h = ex cal k_C_able 10 (x0 :: x1 :: x2 :: aQ r :: ls) (aQ r :: st) h := ex_st cal (s := s_ald 3 10) rfl rfl
theorem u_C_able_10 : ex cal k_C_able 10 (ls) (aQ r :: st) h = if r = none then ex cal k_C_able 24 (ls) (st) h else ex cal k_C_able 13 (ls) (st) h := e_nul cal rfl
theorem u_C_able_13 : ex cal k_C_able 13 (aQ r :: ls) (st) h = ex cal k_C_able 14 (aQ r :: ls) (aQ r :: st) h := ex_st cal (s := s_ald 0 14) rfl rfl
theorem u_C_able_14 : ex cal k_C_able 14 (ls) (aQ (some a) :: st) h = gO h a 9 (ex cal k_C_able 17 (ls) (gf h a 0 :: st) h) := e_gf cal rfl
theorem u_C_able_17 : ex cal k_C_able 17 (x0 :: aI v :: ls) (st) h = ex cal k_C_able 18 (x0 :: aI v :: ls) (aI v :: st) h := ex_st cal (s := s_ild 1 18) rfl rfl
theorem u_C_able_18 (hl : Nat.ble st.length 4 = true) : ex cal k_C_able 18 (ls) (aI z0 :: aQ (some a) :: st) h = gO h a 7 (kk cal k_C_able 21 ls st (cal M_St_isPerson [aQ (some a), aI z0] h)) := e_callV cal (ci := 7) (as := [aI z0]) rfl (by decide) rfl (Nat.le_of_ble_eq_true hl)
theorem u_C_able_21 : ex cal k_C_able 21 (ls) (aI i :: st) h = if wr i = 0 then ex cal k_C_able 24 (ls) (st) h else ex cal k_C_able 26 (ls) (st) h := e_ifne cal rfl
theorem u_C_able_24 : ex cal k_C_able 24 (ls) (st) h = ex cal k_C_able 25 (ls) (aI (-1) :: st) h := e_push cal rfl
theorem u_C_able_25 : ex cal k_C_able 25 (ls) ([aI v]) h = some (some (aI v), h) := e_ret1 cal rfl
theorem u_C_able_26 : ex cal k_C_able 26 (aQ r :: ls) (st) h = ex cal k_C_able 27 (aQ r :: ls) (aQ r :: st) h := ex_st cal (s := s_ald 0 27) rfl rfl
theorem u_C_able_27 : ex cal k_C_able 27 (ls) (aQ (some a) :: st) h = gO h a 9 (ex cal k_C_able 30 (ls) (gf h a 0 :: st) h) := e_gf cal rfl
theorem u_C_able_30 : ex cal k_C_able 30 (x0 :: aI v :: ls) (st) h = ex cal k_C_able 31 (x0 :: aI v :: ls) (aI v :: st) h := ex_st cal (s := s_ild 1 31) rfl rfl
theorem u_C_able_31 : ex cal k_C_able 31 (x0 :: x1 :: x2 :: aQ r :: ls) (st) h = ex cal k_C_able 32 (x0 :: x1 :: x2 :: aQ r :: ls) (aQ r :: st) h := ex_st cal (s := s_ald 3 32) rfl rfl
theorem u_C_able_32 (hl : Nat.ble st.length 4 = true) : ex cal k_C_able 32 (ls) (aQ r1 :: aI z0 :: aQ (some a) :: st) h = gO h a 7 (kk cal k_C_able 35 ls st (cal M_St_isAble [aQ (some a), aI z0, aQ r1] h)) := e_callV cal (ci := 7) (as := [aQ r1, aI z0]) rfl (by decide) rfl (Nat.le_of_ble_eq_true hl)
theorem u_C_able_35 : ex cal k_C_able 35 (ls) (aI i :: st) h = if wr i = 0 then ex cal k_C_able 42 (ls) (st) h else ex cal k_C_able 38 (ls) (st) h := e_ifeq cal rfl
theorem u_C_able_38 : ex cal k_C_able 38 (ls) (st) h = ex cal k_C_able 39 (ls) (aI 1 :: st) h := e_push cal rfl
theorem u_C_able_39 : ex cal k_C_able 39 (ls) (st) h = ex cal k_C_able 43 (ls) (st) h := ex_st cal (s := s_go 43) rfl rfl
theorem u_C_able_42 : ex cal k_C_able 42 (ls) (st) h = ex cal k_C_able 43 (ls) (aI 0 :: st) h := e_push cal rfl
theorem u_C_able_43 : ex cal k_C_able 43 (ls) ([aI v]) h = some (some (aI v), h) := e_ret1 cal rfl
theorem n_C_able (d : Nat) : ev (d + 1) M_C_able [aQ (some a), aI z0, aI z1] h = ex (ev d) k_C_able 0 [aQ (some a), aI z0, aI z1, aU] [] h := rfl
theorem u_C_lost_0 : ex cal k_C_lost 0 (x0 :: aI v :: ls) (st) h = ex cal k_C_lost 1 (x0 :: aI v :: ls) (aI v :: st) h := ex_st cal (s := s_ild 1 1) rfl rfl
theorem u_C_lost_1 : ex cal k_C_lost 1 (ls) (st) h = ex cal k_C_lost 2 (ls) (aI (-1) :: st) h := e_push cal rfl
theorem u_C_lost_2 : ex cal k_C_lost 2 (aQ r :: ls) (st) h = ex cal k_C_lost 3 (aQ r :: ls) (aQ r :: st) h := ex_st cal (s := s_ald 0 3) rfl rfl
theorem u_C_lost_3 : ex cal k_C_lost 3 (ls) (aQ (some a) :: st) h = gO h a 9 (ex cal k_C_lost 6 (ls) (gf h a 0 :: st) h) := e_gf cal rfl
theorem u_C_lost_6 : ex cal k_C_lost 6 (ls) (aQ (some a) :: st) h = gO h a 7 (ex cal k_C_lost 9 (ls) (gf h a 0 :: st) h) := e_gf cal rfl
theorem u_C_lost_9 : ex cal k_C_lost 9 (ls) (aI j :: aI i :: st) h = ex cal k_C_lost 10 (ls) (aI (wshl i j) :: st) h := e_bin cal rfl
theorem u_C_lost_10 : ex cal k_C_lost 10 (ls) (aI j :: aI i :: st) h = ex cal k_C_lost 11 (ls) (aI (wand i j) :: st) h := e_bin cal rfl
theorem u_C_lost_11 : ex cal k_C_lost 11 (ls) (aI i :: st) h = if wr i = 0 then ex cal k_C_lost 16 (ls) (st) h else ex cal k_C_lost 14 (ls) (st) h := e_ifeq cal rfl
theorem u_C_lost_14 : ex cal k_C_lost 14 (ls) (st) h = ex cal k_C_lost 15 (ls) (aI (-1) :: st) h := e_push cal rfl
theorem u_C_lost_15 : ex cal k_C_lost 15 (ls) ([aI v]) h = some (some (aI v), h) := e_ret1 cal rfl
theorem u_C_lost_16 : ex cal k_C_lost 16 (aQ r :: ls) (st) h = ex cal k_C_lost 17 (aQ r :: ls) (aQ r :: st) h := ex_st cal (s := s_ald 0 17) rfl rfl
theorem u_C_lost_17 : ex cal k_C_lost 17 (ls) (aQ (some a) :: st) h = gO h a 9 (ex cal k_C_lost 20 (ls) (gf h a 3 :: st) h) := e_gf cal rfl
theorem u_C_lost_20 : ex cal k_C_lost 20 (aQ r :: ls) (st) h = ex cal k_C_lost 21 (aQ r :: ls) (aQ r :: st) h := ex_st cal (s := s_ald 0 21) rfl rfl
theorem u_C_lost_21 : ex cal k_C_lost 21 (ls) (aQ (some a) :: st) h = gO h a 9 (ex cal k_C_lost 24 (ls) (gf h a 0 :: st) h) := e_gf cal rfl
theorem u_C_lost_24 (hl : Nat.ble st.length 4 = true) : ex cal k_C_lost 24 (ls) (aQ r0 :: aQ (some a) :: st) h = gO h a 8 (kk cal k_C_lost 27 ls st (cal M_Te_gather [aQ (some a), aQ r0] h)) := e_callV cal (ci := 8) (as := [aQ r0]) rfl (by decide) rfl (Nat.le_of_ble_eq_true hl)
theorem u_C_lost_27 : ex cal k_C_lost 27 (aQ r :: ls) (st) h = ex cal k_C_lost 28 (aQ r :: ls) (aQ r :: st) h := ex_st cal (s := s_ald 0 28) rfl rfl
theorem u_C_lost_28 : ex cal k_C_lost 28 (ls) (aQ (some a) :: st) h = gO h a 9 (ex cal k_C_lost 31 (ls) (gf h a 3 :: st) h) := e_gf cal rfl
theorem u_C_lost_31 : ex cal k_C_lost 31 (x0 :: aI v :: ls) (st) h = ex cal k_C_lost 32 (x0 :: aI v :: ls) (aI v :: st) h := ex_st cal (s := s_ild 1 32) rfl rfl
theorem u_C_lost_32 (hl : Nat.ble st.length 4 = true) : ex cal k_C_lost 32 (ls) (aI z0 :: aQ (some a) :: st) h = gO h a 8 (kk cal k_C_lost 35 ls st (cal M_Te_lostWithout [aQ (some a), aI z0] h)) := e_callV cal (ci := 8) (as := [aI z0]) rfl (by decide) rfl (Nat.le_of_ble_eq_true hl)
theorem u_C_lost_35 : ex cal k_C_lost 35 (ls) ([aI v]) h = some (some (aI v), h) := e_ret1 cal rfl
theorem n_C_lost (d : Nat) : ev (d + 1) M_C_lost [aQ (some a), aI z0] h = ex (ev d) k_C_lost 0 [aQ (some a), aI z0] [] h := rfl
theorem u_C_lone_0 : ex cal k_C_lone 0 (x0 :: aI v :: ls) (st) h = ex cal k_C_lone 1 (x0 :: aI v :: ls) (aI v :: st) h := ex_st cal (s := s_ild 1 1) rfl rfl
theorem u_C_lone_1 : ex cal k_C_lone 1 (ls) (aI i :: st) h = if wr i < 0 then ex cal k_C_lone 10 (ls) (st) h else ex cal k_C_lone 4 (ls) (st) h := e_iflt cal rfl
theorem u_C_lone_4 : ex cal k_C_lone 4 (x0 :: aI v :: ls) (st) h = ex cal k_C_lone 5 (x0 :: aI v :: ls) (aI v :: st) h := ex_st cal (s := s_ild 1 5) rfl rfl
theorem u_C_lone_5 : ex cal k_C_lone 5 (ls) (st) h = ex cal k_C_lone 7 (ls) (aI 6 :: st) h := e_push cal rfl
theorem u_C_lone_7 : ex cal k_C_lone 7 (ls) (aI j :: aI i :: st) h = if wr i < wr j then ex cal k_C_lone 12 (ls) (st) h else ex cal k_C_lone 10 (ls) (st) h := e_iclt cal rfl
theorem u_C_lone_10 : ex cal k_C_lone 10 (ls) (st) h = ex cal k_C_lone 11 (ls) (aI (-1) :: st) h := e_push cal rfl
theorem u_C_lone_11 : ex cal k_C_lone 11 (ls) ([aI v]) h = some (some (aI v), h) := e_ret1 cal rfl
theorem u_C_lone_12 : ex cal k_C_lone 12 (aQ r :: ls) (st) h = ex cal k_C_lone 13 (aQ r :: ls) (aQ r :: st) h := ex_st cal (s := s_ald 0 13) rfl rfl
theorem u_C_lone_13 : ex cal k_C_lone 13 (ls) (aQ (some a) :: st) h = gO h a 9 (ex cal k_C_lone 16 (ls) (gf h a 3 :: st) h) := e_gf cal rfl
theorem u_C_lone_16 : ex cal k_C_lone 16 (aQ r :: ls) (st) h = ex cal k_C_lone 17 (aQ r :: ls) (aQ r :: st) h := ex_st cal (s := s_ald 0 17) rfl rfl
theorem u_C_lone_17 : ex cal k_C_lone 17 (ls) (aQ (some a) :: st) h = gO h a 9 (ex cal k_C_lone 20 (ls) (gf h a 0 :: st) h) := e_gf cal rfl
theorem u_C_lone_20 (hl : Nat.ble st.length 4 = true) : ex cal k_C_lone 20 (ls) (aQ r0 :: aQ (some a) :: st) h = gO h a 8 (kk cal k_C_lone 23 ls st (cal M_Te_gather [aQ (some a), aQ r0] h)) := e_callV cal (ci := 8) (as := [aQ r0]) rfl (by decide) rfl (Nat.le_of_ble_eq_true hl)
theorem u_C_lone_23 : ex cal k_C_lone 23 (aQ r :: ls) (st) h = ex cal k_C_lone 24 (aQ r :: ls) (aQ r :: st) h := ex_st cal (s := s_ald 0 24) rfl rfl
theorem u_C_lone_24 : ex cal k_C_lone 24 (ls) (aQ (some a) :: st) h = gO h a 9 (ex cal k_C_lone 27 (ls) (gf h a 3 :: st) h) := e_gf cal rfl
theorem u_C_lone_27 : ex cal k_C_lone 27 (ls) (st) h = ex cal k_C_lone 28 (ls) (aI 0 :: st) h := e_push cal rfl
theorem u_C_lone_28 (hl : Nat.ble st.length 4 = true) : ex cal k_C_lone 28 (ls) (aI z0 :: aQ (some a) :: st) h = gO h a 8 (kk cal k_C_lone 31 ls st (cal M_Te_loneAfter [aQ (some a), aI z0] h)) := e_callV cal (ci := 8) (as := [aI z0]) rfl (by decide) rfl (Nat.le_of_ble_eq_true hl)
theorem u_C_lone_31 (hx : aNl x1 = true) : ex cal k_C_lone 31 (x0 :: x1 :: y :: ls) (aI v :: st) h = ex cal k_C_lone 32 (x0 :: x1 :: aI v :: ls) (st) h := e_ist (ls := x0 :: x1 :: y :: ls) (k := 2) rfl hx (by simp only [List.length_cons]; omega)
theorem u_C_lone_32 : ex cal k_C_lone 32 (ls) (st) h = ex cal k_C_lone 33 (ls) (aI 0 :: st) h := e_push cal rfl
theorem u_C_lone_33 (hx : aNl x2 = true) : ex cal k_C_lone 33 (x0 :: x1 :: x2 :: y :: ls) (aI v :: st) h = ex cal k_C_lone 34 (x0 :: x1 :: x2 :: aI v :: ls) (st) h := e_ist (ls := x0 :: x1 :: x2 :: y :: ls) (k := 3) rfl hx (by simp only [List.length_cons]; omega)
theorem u_C_lone_34 : ex cal k_C_lone 34 (x0 :: x1 :: x2 :: aI v :: ls) (st) h = ex cal k_C_lone 35 (x0 :: x1 :: x2 :: aI v :: ls) (aI v :: st) h := ex_st cal (s := s_ild 3 35) rfl rfl
theorem u_C_lone_35 : ex cal k_C_lone 35 (x0 :: aI v :: ls) (st) h = ex cal k_C_lone 36 (x0 :: aI v :: ls) (aI v :: st) h := ex_st cal (s := s_ild 1 36) rfl rfl
theorem u_C_lone_36 : ex cal k_C_lone 36 (ls) (aI j :: aI i :: st) h = if wr i < wr j then ex cal k_C_lone 39 (ls) (st) h else ex cal k_C_lone 58 (ls) (st) h := e_icge cal rfl
theorem u_C_lone_39 : ex cal k_C_lone 39 (x0 :: x1 :: aI v :: ls) (st) h = ex cal k_C_lone 40 (x0 :: x1 :: aI v :: ls) (aI v :: st) h := ex_st cal (s := s_ild 2 40) rfl rfl
theorem u_C_lone_40 : ex cal k_C_lone 40 (ls) (aI i :: st) h = if wr i = 0 then ex cal k_C_lone 58 (ls) (st) h else ex cal k_C_lone 43 (ls) (st) h := e_ifeq cal rfl
theorem u_C_lone_43 : ex cal k_C_lone 43 (aQ r :: ls) (st) h = ex cal k_C_lone 44 (aQ r :: ls) (aQ r :: st) h := ex_st cal (s := s_ald 0 44) rfl rfl
theorem u_C_lone_44 : ex cal k_C_lone 44 (ls) (aQ (some a) :: st) h = gO h a 9 (ex cal k_C_lone 47 (ls) (gf h a 3 :: st) h) := e_gf cal rfl
theorem u_C_lone_47 : ex cal k_C_lone 47 (x0 :: x1 :: aI v :: ls) (st) h = ex cal k_C_lone 48 (x0 :: x1 :: aI v :: ls) (aI v :: st) h := ex_st cal (s := s_ild 2 48) rfl rfl
theorem u_C_lone_48 (hl : Nat.ble st.length 4 = true) : ex cal k_C_lone 48 (ls) (aI z0 :: aQ (some a) :: st) h = gO h a 8 (kk cal k_C_lone 51 ls st (cal M_Te_loneAfter [aQ (some a), aI z0] h)) := e_callV cal (ci := 8) (as := [aI z0]) rfl (by decide) rfl (Nat.le_of_ble_eq_true hl)
theorem u_C_lone_51 (hx : aNl x1 = true) : ex cal k_C_lone 51 (x0 :: x1 :: y :: ls) (aI v :: st) h = ex cal k_C_lone 52 (x0 :: x1 :: aI v :: ls) (st) h := e_ist (ls := x0 :: x1 :: y :: ls) (k := 2) rfl hx (by simp only [List.length_cons]; omega)
theorem u_C_lone_52 (hx : aNl x2 = true) : ex cal k_C_lone 52 (x0 :: x1 :: x2 :: aI v :: ls) (st) h = ex cal k_C_lone 55 (x0 :: x1 :: x2 :: aI (v + 1) :: ls) (st) h := e_inc (ls := x0 :: x1 :: x2 :: aI v :: ls) (k := 3) rfl rfl hx
theorem u_C_lone_55 : ex cal k_C_lone 55 (ls) (st) h = ex cal k_C_lone 34 (ls) (st) h := ex_st cal (s := s_go 34) rfl rfl
theorem u_C_lone_58 : ex cal k_C_lone 58 (x0 :: x1 :: aI v :: ls) (st) h = ex cal k_C_lone 59 (x0 :: x1 :: aI v :: ls) (aI v :: st) h := ex_st cal (s := s_ild 2 59) rfl rfl
theorem u_C_lone_59 : ex cal k_C_lone 59 (ls) (aI i :: st) h = if wr i = 0 then ex cal k_C_lone 62 (ls) (st) h else ex cal k_C_lone 66 (ls) (st) h := e_ifne cal rfl
theorem u_C_lone_62 : ex cal k_C_lone 62 (ls) (st) h = ex cal k_C_lone 63 (ls) (aI (-1) :: st) h := e_push cal rfl
theorem u_C_lone_63 : ex cal k_C_lone 63 (ls) (st) h = ex cal k_C_lone 67 (ls) (st) h := ex_st cal (s := s_go 67) rfl rfl
theorem u_C_lone_66 : ex cal k_C_lone 66 (x0 :: x1 :: aI v :: ls) (st) h = ex cal k_C_lone 67 (x0 :: x1 :: aI v :: ls) (aI v :: st) h := ex_st cal (s := s_ild 2 67) rfl rfl
theorem u_C_lone_67 : ex cal k_C_lone 67 (ls) ([aI v]) h = some (some (aI v), h) := e_ret1 cal rfl
theorem n_C_lone (d : Nat) : ev (d + 1) M_C_lone [aQ (some a), aI z0] h = ex (ev d) k_C_lone 0 [aQ (some a), aI z0, aU, aU] [] h := rfl
theorem u_C_cover_0 : ex cal k_C_cover 0 (aQ r :: ls) (st) h = ex cal k_C_cover 1 (aQ r :: ls) (aQ r :: st) h := ex_st cal (s := s_ald 0 1) rfl rfl
theorem u_C_cover_1 : ex cal k_C_cover 1 (ls) (aQ (some a) :: st) h = gO h a 9 (ex cal k_C_cover 4 (ls) (gf h a 3 :: st) h) := e_gf cal rfl
theorem u_C_cover_4 : ex cal k_C_cover 4 (aQ r :: ls) (st) h = ex cal k_C_cover 5 (aQ r :: ls) (aQ r :: st) h := ex_st cal (s := s_ald 0 5) rfl rfl
theorem u_C_cover_5 : ex cal k_C_cover 5 (ls) (aQ (some a) :: st) h = gO h a 9 (ex cal k_C_cover 8 (ls) (gf h a 0 :: st) h) := e_gf cal rfl
theorem u_C_cover_8 (hl : Nat.ble st.length 4 = true) : ex cal k_C_cover 8 (ls) (aQ r0 :: aQ (some a) :: st) h = gO h a 8 (kk cal k_C_cover 11 ls st (cal M_Te_gather [aQ (some a), aQ r0] h)) := e_callV cal (ci := 8) (as := [aQ r0]) rfl (by decide) rfl (Nat.le_of_ble_eq_true hl)
theorem u_C_cover_11 : ex cal k_C_cover 11 (aQ r :: ls) (st) h = ex cal k_C_cover 12 (aQ r :: ls) (aQ r :: st) h := ex_st cal (s := s_ald 0 12) rfl rfl
theorem u_C_cover_12 : ex cal k_C_cover 12 (ls) (aQ (some a) :: st) h = gO h a 9 (ex cal k_C_cover 15 (ls) (gf h a 3 :: st) h) := e_gf cal rfl
theorem u_C_cover_15 : ex cal k_C_cover 15 (aQ r :: ls) (st) h = ex cal k_C_cover 16 (aQ r :: ls) (aQ r :: st) h := ex_st cal (s := s_ald 0 16) rfl rfl
theorem u_C_cover_16 : ex cal k_C_cover 16 (ls) (aQ (some a) :: st) h = gO h a 9 (ex cal k_C_cover 19 (ls) (gf h a 0 :: st) h) := e_gf cal rfl
theorem u_C_cover_19 : ex cal k_C_cover 19 (ls) (aQ (some a) :: st) h = gO h a 7 (ex cal k_C_cover 22 (ls) (gf h a 2 :: st) h) := e_gf cal rfl
theorem u_C_cover_22 (hl : Nat.ble st.length 4 = true) : ex cal k_C_cover 22 (ls) (aI z0 :: aQ (some a) :: st) h = gO h a 8 (kk cal k_C_cover 25 ls st (cal M_Te_fewest [aQ (some a), aI z0] h)) := e_callV cal (ci := 8) (as := [aI z0]) rfl (by decide) rfl (Nat.le_of_ble_eq_true hl)
theorem u_C_cover_25 : ex cal k_C_cover 25 (ls) ([aI v]) h = some (some (aI v), h) := e_ret1 cal rfl
theorem n_C_cover (d : Nat) : ev (d + 1) M_C_cover [aQ (some a)] h = ex (ev d) k_C_cover 0 [aQ (some a)] [] h := rfl
theorem u_C_plan_0 : ex cal k_C_plan 0 (x0 :: aI v :: ls) (st) h = ex cal k_C_plan 1 (x0 :: aI v :: ls) (aI v :: st) h := ex_st cal (s := s_ild 1 1) rfl rfl
theorem u_C_plan_1 : ex cal k_C_plan 1 (ls) (st) h = ex cal k_C_plan 2 (ls) (aI 1 :: st) h := e_push cal rfl
theorem u_C_plan_2 : ex cal k_C_plan 2 (ls) (aI j :: aI i :: st) h = if wr i < wr j then ex cal k_C_plan 26 (ls) (st) h else ex cal k_C_plan 5 (ls) (st) h := e_iclt cal rfl
theorem u_C_plan_5 : ex cal k_C_plan 5 (x0 :: aI v :: ls) (st) h = ex cal k_C_plan 6 (x0 :: aI v :: ls) (aI v :: st) h := ex_st cal (s := s_ild 1 6) rfl rfl
theorem u_C_plan_6 : ex cal k_C_plan 6 (ls) (st) h = ex cal k_C_plan 7 (ls) (aI 3 :: st) h := e_push cal rfl
theorem u_C_plan_7 : ex cal k_C_plan 7 (ls) (aI j :: aI i :: st) h = if wr j < wr i then ex cal k_C_plan 26 (ls) (st) h else ex cal k_C_plan 10 (ls) (st) h := e_icgt cal rfl
theorem u_C_plan_10 : ex cal k_C_plan 10 (x0 :: x1 :: aI v :: ls) (st) h = ex cal k_C_plan 11 (x0 :: x1 :: aI v :: ls) (aI v :: st) h := ex_st cal (s := s_ild 2 11) rfl rfl
theorem u_C_plan_11 : ex cal k_C_plan 11 (ls) (st) h = ex cal k_C_plan 12 (ls) (aI (-1) :: st) h := e_push cal rfl
theorem u_C_plan_12 : ex cal k_C_plan 12 (ls) (aI j :: aI i :: st) h = if wr i < wr j then ex cal k_C_plan 26 (ls) (st) h else ex cal k_C_plan 15 (ls) (st) h := e_iclt cal rfl
theorem u_C_plan_15 : ex cal k_C_plan 15 (x0 :: x1 :: aI v :: ls) (st) h = ex cal k_C_plan 16 (x0 :: x1 :: aI v :: ls) (aI v :: st) h := ex_st cal (s := s_ild 2 16) rfl rfl
theorem u_C_plan_16 : ex cal k_C_plan 16 (aQ r :: ls) (st) h = ex cal k_C_plan 17 (aQ r :: ls) (aQ r :: st) h := ex_st cal (s := s_ald 0 17) rfl rfl
theorem u_C_plan_17 : ex cal k_C_plan 17 (ls) (aQ (some a) :: st) h = gO h a 9 (ex cal k_C_plan 20 (ls) (gf h a 0 :: st) h) := e_gf cal rfl
theorem u_C_plan_20 : ex cal k_C_plan 20 (ls) (aQ (some a) :: st) h = gO h a 7 (ex cal k_C_plan 23 (ls) (gf h a 0 :: st) h) := e_gf cal rfl
theorem u_C_plan_23 : ex cal k_C_plan 23 (ls) (aI j :: aI i :: st) h = if wr i < wr j then ex cal k_C_plan 29 (ls) (st) h else ex cal k_C_plan 26 (ls) (st) h := e_iclt cal rfl
theorem u_C_plan_26 : ex cal k_C_plan 26 (ls) (st) h = ex cal k_C_plan 28 (ls) (aI (-2) :: st) h := e_push cal rfl
theorem u_C_plan_28 : ex cal k_C_plan 28 (ls) ([aI v]) h = some (some (aI v), h) := e_ret1 cal rfl
theorem u_C_plan_29 : ex cal k_C_plan 29 (aQ r :: ls) (st) h = ex cal k_C_plan 30 (aQ r :: ls) (aQ r :: st) h := ex_st cal (s := s_ald 0 30) rfl rfl
theorem u_C_plan_30 : ex cal k_C_plan 30 (ls) (aQ (some a) :: st) h = gO h a 9 (ex cal k_C_plan 33 (ls) (gf h a 3 :: st) h) := e_gf cal rfl
theorem u_C_plan_33 : ex cal k_C_plan 33 (aQ r :: ls) (st) h = ex cal k_C_plan 34 (aQ r :: ls) (aQ r :: st) h := ex_st cal (s := s_ald 0 34) rfl rfl
theorem u_C_plan_34 : ex cal k_C_plan 34 (ls) (aQ (some a) :: st) h = gO h a 9 (ex cal k_C_plan 37 (ls) (gf h a 0 :: st) h) := e_gf cal rfl
theorem u_C_plan_37 (hl : Nat.ble st.length 4 = true) : ex cal k_C_plan 37 (ls) (aQ r0 :: aQ (some a) :: st) h = gO h a 8 (kk cal k_C_plan 40 ls st (cal M_Te_gather [aQ (some a), aQ r0] h)) := e_callV cal (ci := 8) (as := [aQ r0]) rfl (by decide) rfl (Nat.le_of_ble_eq_true hl)
theorem u_C_plan_40 : ex cal k_C_plan 40 (aQ r :: ls) (st) h = ex cal k_C_plan 41 (aQ r :: ls) (aQ r :: st) h := ex_st cal (s := s_ald 0 41) rfl rfl
theorem u_C_plan_41 : ex cal k_C_plan 41 (ls) (aQ (some a) :: st) h = gO h a 9 (ex cal k_C_plan 44 (ls) (gf h a 4 :: st) h) := e_gf cal rfl
theorem u_C_plan_44 : ex cal k_C_plan 44 (aQ r :: ls) (st) h = ex cal k_C_plan 45 (aQ r :: ls) (aQ r :: st) h := ex_st cal (s := s_ald 0 45) rfl rfl
theorem u_C_plan_45 : ex cal k_C_plan 45 (ls) (aQ (some a) :: st) h = gO h a 9 (ex cal k_C_plan 48 (ls) (gf h a 0 :: st) h) := e_gf cal rfl
theorem u_C_plan_48 : ex cal k_C_plan 48 (aQ r :: ls) (st) h = ex cal k_C_plan 49 (aQ r :: ls) (aQ r :: st) h := ex_st cal (s := s_ald 0 49) rfl rfl
theorem u_C_plan_49 : ex cal k_C_plan 49 (ls) (aQ (some a) :: st) h = gO h a 9 (ex cal k_C_plan 52 (ls) (gf h a 3 :: st) h) := e_gf cal rfl
theorem u_C_plan_52 : ex cal k_C_plan 52 (x0 :: aI v :: ls) (st) h = ex cal k_C_plan 53 (x0 :: aI v :: ls) (aI v :: st) h := ex_st cal (s := s_ild 1 53) rfl rfl
theorem u_C_plan_53 (hl : Nat.ble st.length 4 = true) : ex cal k_C_plan 53 (ls) (aI z2 :: aQ r1 :: aQ r0 :: aQ (some a) :: st) h = gO h a 5 (kk cal k_C_plan 56 ls st (cal M_Pl_workOut [aQ (some a), aQ r0, aQ r1, aI z2] h)) := e_callV cal (ci := 5) (as := [aI z2, aQ r1, aQ r0]) rfl (by decide) rfl (Nat.le_of_ble_eq_true hl)
theorem u_C_plan_56 : ex cal k_C_plan 56 (ls) (aI i :: st) h = if wr i = 0 then ex cal k_C_plan 59 (ls) (st) h else ex cal k_C_plan 62 (ls) (st) h := e_ifne cal rfl
theorem u_C_plan_59 : ex cal k_C_plan 59 (ls) (st) h = ex cal k_C_plan 61 (ls) (aI (-2) :: st) h := e_push cal rfl
theorem u_C_plan_61 : ex cal k_C_plan 61 (ls) ([aI v]) h = some (some (aI v), h) := e_ret1 cal rfl
theorem u_C_plan_62 : ex cal k_C_plan 62 (x0 :: x1 :: aI v :: ls) (st) h = ex cal k_C_plan 63 (x0 :: x1 :: aI v :: ls) (aI v :: st) h := ex_st cal (s := s_ild 2 63) rfl rfl
theorem u_C_plan_63 : ex cal k_C_plan 63 (ls) (st) h = ex cal k_C_plan 64 (ls) (aI (-1) :: st) h := e_push cal rfl
theorem u_C_plan_64 : ex cal k_C_plan 64 (ls) (aI j :: aI i :: st) h = if wr i = wr j then ex cal k_C_plan 67 (ls) (st) h else ex cal k_C_plan 77 (ls) (st) h := e_icne cal rfl
theorem u_C_plan_67 : ex cal k_C_plan 67 (aQ r :: ls) (st) h = ex cal k_C_plan 68 (aQ r :: ls) (aQ r :: st) h := ex_st cal (s := s_ald 0 68) rfl rfl
theorem u_C_plan_68 : ex cal k_C_plan 68 (ls) (aQ (some a) :: st) h = gO h a 9 (ex cal k_C_plan 71 (ls) (gf h a 4 :: st) h) := e_gf cal rfl
theorem u_C_plan_71 : ex cal k_C_plan 71 (ls) (aQ (some a) :: st) h = gO h a 5 (ex cal k_C_plan 74 (ls) (gf h a 0 :: st) h) := e_gf cal rfl
theorem u_C_plan_74 : ex cal k_C_plan 74 (ls) (st) h = ex cal k_C_plan 86 (ls) (st) h := ex_st cal (s := s_go 86) rfl rfl
theorem u_C_plan_77 : ex cal k_C_plan 77 (aQ r :: ls) (st) h = ex cal k_C_plan 78 (aQ r :: ls) (aQ r :: st) h := ex_st cal (s := s_ald 0 78) rfl rfl
theorem u_C_plan_78 : ex cal k_C_plan 78 (ls) (aQ (some a) :: st) h = gO h a 9 (ex cal k_C_plan 81 (ls) (gf h a 4 :: st) h) := e_gf cal rfl
theorem u_C_plan_81 : ex cal k_C_plan 81 (ls) (aQ (some a) :: st) h = gO h a 5 (ex cal k_C_plan 84 (ls) (gf h a 1 :: st) h) := e_gf cal rfl
theorem u_C_plan_84 : ex cal k_C_plan 84 (x0 :: x1 :: aI v :: ls) (st) h = ex cal k_C_plan 85 (x0 :: x1 :: aI v :: ls) (aI v :: st) h := ex_st cal (s := s_ild 2 85) rfl rfl
theorem u_C_plan_85 : ex cal k_C_plan 85 (ls) (aI i :: aQ (some a) :: st) h = gA h a i (ex cal k_C_plan 86 (ls) (aI (ai h a (wr i)) :: st) h) := e_ia cal rfl
theorem u_C_plan_86 : ex cal k_C_plan 86 (ls) ([aI v]) h = some (some (aI v), h) := e_ret1 cal rfl
theorem n_C_plan (d : Nat) : ev (d + 1) M_C_plan [aQ (some a), aI z0, aI z1] h = ex (ev d) k_C_plan 0 [aQ (some a), aI z0, aI z1] [] h := rfl
theorem u_C_sum_0 : ex cal k_C_sum 0 (aQ r :: ls) (st) h = ex cal k_C_sum 1 (aQ r :: ls) (aQ r :: st) h := ex_st cal (s := s_ald 0 1) rfl rfl
theorem u_C_sum_1 : ex cal k_C_sum 1 (ls) (aQ (some a) :: st) h = gO h a 9 (ex cal k_C_sum 4 (ls) (gf h a 0 :: st) h) := e_gf cal rfl
theorem u_C_sum_4 : ex cal k_C_sum 4 (x0 :: aI v :: ls) (st) h = ex cal k_C_sum 5 (x0 :: aI v :: ls) (aI v :: st) h := ex_st cal (s := s_ild 1 5) rfl rfl
theorem u_C_sum_5 (hl : Nat.ble st.length 4 = true) : ex cal k_C_sum 5 (ls) (aI z0 :: aQ (some a) :: st) h = gO h a 7 (kk cal k_C_sum 8 ls st (cal M_St_isPerson [aQ (some a), aI z0] h)) := e_callV cal (ci := 7) (as := [aI z0]) rfl (by decide) rfl (Nat.le_of_ble_eq_true hl)
theorem u_C_sum_8 : ex cal k_C_sum 8 (ls) (aI i :: st) h = if wr i = 0 then ex cal k_C_sum 27 (ls) (st) h else ex cal k_C_sum 11 (ls) (st) h := e_ifeq cal rfl
theorem u_C_sum_11 : ex cal k_C_sum 11 (x0 :: x1 :: aI v :: ls) (st) h = ex cal k_C_sum 12 (x0 :: x1 :: aI v :: ls) (aI v :: st) h := ex_st cal (s := s_ild 2 12) rfl rfl
theorem u_C_sum_12 : ex cal k_C_sum 12 (ls) (st) h = ex cal k_C_sum 13 (ls) (aI (-1) :: st) h := e_push cal rfl
theorem u_C_sum_13 : ex cal k_C_sum 13 (ls) (aI j :: aI i :: st) h = if wr i = wr j then ex cal k_C_sum 29 (ls) (st) h else ex cal k_C_sum 16 (ls) (st) h := e_iceq cal rfl
theorem u_C_sum_16 : ex cal k_C_sum 16 (aQ r :: ls) (st) h = ex cal k_C_sum 17 (aQ r :: ls) (aQ r :: st) h := ex_st cal (s := s_ald 0 17) rfl rfl
theorem u_C_sum_17 : ex cal k_C_sum 17 (ls) (aQ (some a) :: st) h = gO h a 9 (ex cal k_C_sum 20 (ls) (gf h a 0 :: st) h) := e_gf cal rfl
theorem u_C_sum_20 : ex cal k_C_sum 20 (x0 :: x1 :: aI v :: ls) (st) h = ex cal k_C_sum 21 (x0 :: x1 :: aI v :: ls) (aI v :: st) h := ex_st cal (s := s_ild 2 21) rfl rfl
theorem u_C_sum_21 (hl : Nat.ble st.length 4 = true) : ex cal k_C_sum 21 (ls) (aI z0 :: aQ (some a) :: st) h = gO h a 7 (kk cal k_C_sum 24 ls st (cal M_St_pageOf [aQ (some a), aI z0] h)) := e_callV cal (ci := 7) (as := [aI z0]) rfl (by decide) rfl (Nat.le_of_ble_eq_true hl)
theorem u_C_sum_24 : ex cal k_C_sum 24 (ls) (aQ r :: st) h = if r = none then ex cal k_C_sum 27 (ls) (st) h else ex cal k_C_sum 29 (ls) (st) h := e_nul cal rfl
theorem u_C_sum_27 : ex cal k_C_sum 27 (ls) (st) h = ex cal k_C_sum 28 (ls) (aI (-1) :: st) h := e_push cal rfl
theorem u_C_sum_28 : ex cal k_C_sum 28 (ls) ([aI v]) h = some (some (aI v), h) := e_ret1 cal rfl
theorem u_C_sum_29 : ex cal k_C_sum 29 (ls) (st) h = ex cal k_C_sum 30 (ls) (aI 0 :: st) h := e_push cal rfl
theorem u_C_sum_30 (hx : aNl x2 = true) : ex cal k_C_sum 30 (x0 :: x1 :: x2 :: y :: ls) (aI v :: st) h = ex cal k_C_sum 31 (x0 :: x1 :: x2 :: aI v :: ls) (st) h := e_ist (ls := x0 :: x1 :: x2 :: y :: ls) (k := 3) rfl hx (by simp only [List.length_cons]; omega)
theorem u_C_sum_31 : ex cal k_C_sum 31 (ls) (st) h = ex cal k_C_sum 32 (ls) (aI 0 :: st) h := e_push cal rfl
theorem u_C_sum_32 (hx : aNl x3 = true) : ex cal k_C_sum 32 (x0 :: x1 :: x2 :: x3 :: y :: ls) (aI v :: st) h = ex cal k_C_sum 34 (x0 :: x1 :: x2 :: x3 :: aI v :: ls) (st) h := e_ist (ls := x0 :: x1 :: x2 :: x3 :: y :: ls) (k := 4) rfl hx (by simp only [List.length_cons]; omega)
theorem u_C_sum_34 : ex cal k_C_sum 34 (x0 :: x1 :: x2 :: x3 :: aI v :: ls) (st) h = ex cal k_C_sum 36 (x0 :: x1 :: x2 :: x3 :: aI v :: ls) (aI v :: st) h := ex_st cal (s := s_ild 4 36) rfl rfl
theorem u_C_sum_36 : ex cal k_C_sum 36 (ls) (st) h = ex cal k_C_sum 38 (ls) (aI 6 :: st) h := e_push cal rfl
theorem u_C_sum_38 : ex cal k_C_sum 38 (ls) (aI j :: aI i :: st) h = if wr i < wr j then ex cal k_C_sum 41 (ls) (st) h else ex cal k_C_sum 79 (ls) (st) h := e_icge cal rfl
theorem u_C_sum_41 : ex cal k_C_sum 41 (x0 :: x1 :: aI v :: ls) (st) h = ex cal k_C_sum 42 (x0 :: x1 :: aI v :: ls) (aI v :: st) h := ex_st cal (s := s_ild 2 42) rfl rfl
theorem u_C_sum_42 : ex cal k_C_sum 42 (ls) (st) h = ex cal k_C_sum 43 (ls) (aI (-1) :: st) h := e_push cal rfl
theorem u_C_sum_43 : ex cal k_C_sum 43 (ls) (aI j :: aI i :: st) h = if wr i = wr j then ex cal k_C_sum 52 (ls) (st) h else ex cal k_C_sum 46 (ls) (st) h := e_iceq cal rfl
theorem u_C_sum_46 : ex cal k_C_sum 46 (x0 :: x1 :: aI v :: ls) (st) h = ex cal k_C_sum 47 (x0 :: x1 :: aI v :: ls) (aI v :: st) h := ex_st cal (s := s_ild 2 47) rfl rfl
theorem u_C_sum_47 : ex cal k_C_sum 47 (x0 :: x1 :: x2 :: x3 :: aI v :: ls) (st) h = ex cal k_C_sum 49 (x0 :: x1 :: x2 :: x3 :: aI v :: ls) (aI v :: st) h := ex_st cal (s := s_ild 4 49) rfl rfl
theorem u_C_sum_49 : ex cal k_C_sum 49 (ls) (aI j :: aI i :: st) h = if wr i = wr j then ex cal k_C_sum 52 (ls) (st) h else ex cal k_C_sum 73 (ls) (st) h := e_icne cal rfl
theorem u_C_sum_52 : ex cal k_C_sum 52 (x0 :: x1 :: x2 :: aI v :: ls) (st) h = ex cal k_C_sum 53 (x0 :: x1 :: x2 :: aI v :: ls) (aI v :: st) h := ex_st cal (s := s_ild 3 53) rfl rfl
theorem u_C_sum_53 : ex cal k_C_sum 53 (aQ r :: ls) (st) h = ex cal k_C_sum 54 (aQ r :: ls) (aQ r :: st) h := ex_st cal (s := s_ald 0 54) rfl rfl
theorem u_C_sum_54 : ex cal k_C_sum 54 (ls) (aQ (some a) :: st) h = gO h a 9 (ex cal k_C_sum 57 (ls) (gf h a 0 :: st) h) := e_gf cal rfl
theorem u_C_sum_57 : ex cal k_C_sum 57 (x0 :: aI v :: ls) (st) h = ex cal k_C_sum 58 (x0 :: aI v :: ls) (aI v :: st) h := ex_st cal (s := s_ild 1 58) rfl rfl
theorem u_C_sum_58 : ex cal k_C_sum 58 (aQ r :: ls) (st) h = ex cal k_C_sum 59 (aQ r :: ls) (aQ r :: st) h := ex_st cal (s := s_ald 0 59) rfl rfl
theorem u_C_sum_59 : ex cal k_C_sum 59 (ls) (aQ (some a) :: st) h = gO h a 9 (ex cal k_C_sum 62 (ls) (gf h a 0 :: st) h) := e_gf cal rfl
theorem u_C_sum_62 : ex cal k_C_sum 62 (ls) (aQ (some a) :: st) h = gO h a 7 (ex cal k_C_sum 65 (ls) (gf h a 7 :: st) h) := e_gf cal rfl
theorem u_C_sum_65 : ex cal k_C_sum 65 (x0 :: x1 :: x2 :: x3 :: aI v :: ls) (st) h = ex cal k_C_sum 67 (x0 :: x1 :: x2 :: x3 :: aI v :: ls) (aI v :: st) h := ex_st cal (s := s_ild 4 67) rfl rfl
theorem u_C_sum_67 : ex cal k_C_sum 67 (ls) (aI i :: aQ (some a) :: st) h = gR h a 0 i (ex cal k_C_sum 68 (ls) (aQ (ra h a (wr i)) :: st) h) := e_ra cal rfl
theorem u_C_sum_68 (hl : Nat.ble st.length 4 = true) : ex cal k_C_sum 68 (ls) (aQ r1 :: aI z0 :: aQ (some a) :: st) h = gO h a 7 (kk cal k_C_sum 71 ls st (cal M_St_shareOf [aQ (some a), aI z0, aQ r1] h)) := e_callV cal (ci := 7) (as := [aQ r1, aI z0]) rfl (by decide) rfl (Nat.le_of_ble_eq_true hl)
theorem u_C_sum_71 : ex cal k_C_sum 71 (ls) (aI j :: aI i :: st) h = ex cal k_C_sum 72 (ls) (aI (i + j) :: st) h := e_bin cal rfl
theorem u_C_sum_72 (hx : aNl x2 = true) : ex cal k_C_sum 72 (x0 :: x1 :: x2 :: y :: ls) (aI v :: st) h = ex cal k_C_sum 73 (x0 :: x1 :: x2 :: aI v :: ls) (st) h := e_ist (ls := x0 :: x1 :: x2 :: y :: ls) (k := 3) rfl hx (by simp only [List.length_cons]; omega)
theorem u_C_sum_73 (hx : aNl x3 = true) : ex cal k_C_sum 73 (x0 :: x1 :: x2 :: x3 :: aI v :: ls) (st) h = ex cal k_C_sum 76 (x0 :: x1 :: x2 :: x3 :: aI (v + 1) :: ls) (st) h := e_inc (ls := x0 :: x1 :: x2 :: x3 :: aI v :: ls) (k := 4) rfl rfl hx
theorem u_C_sum_76 : ex cal k_C_sum 76 (ls) (st) h = ex cal k_C_sum 34 (ls) (st) h := ex_st cal (s := s_go 34) rfl rfl
theorem u_C_sum_79 : ex cal k_C_sum 79 (x0 :: x1 :: x2 :: aI v :: ls) (st) h = ex cal k_C_sum 80 (x0 :: x1 :: x2 :: aI v :: ls) (aI v :: st) h := ex_st cal (s := s_ild 3 80) rfl rfl
theorem u_C_sum_80 : ex cal k_C_sum 80 (ls) ([aI v]) h = some (some (aI v), h) := e_ret1 cal rfl
theorem n_C_sum (d : Nat) : ev (d + 1) M_C_sum [aQ (some a), aI z0, aI z1] h = ex (ev d) k_C_sum 0 [aQ (some a), aI z0, aI z1, aU, aU] [] h := rfl
theorem u_C_count_0 : ex cal k_C_count 0 (x0 :: aI v :: ls) (st) h = ex cal k_C_count 1 (x0 :: aI v :: ls) (aI v :: st) h := ex_st cal (s := s_ild 1 1) rfl rfl
theorem u_C_count_1 : ex cal k_C_count 1 (ls) (aI i :: st) h = ex cal k_C_count (swt [(0, 48), (1, 56), (2, 64), (3, 72), (4, 80), (5, 88), (6, 99), (7, 104)] 112 (wr i)) ls st h := e_sw cal rfl
theorem u_C_count_48 : ex cal k_C_count 48 (aQ r :: ls) (st) h = ex cal k_C_count 49 (aQ r :: ls) (aQ r :: st) h := ex_st cal (s := s_ald 0 49) rfl rfl
theorem u_C_count_49 : ex cal k_C_count 49 (ls) (aQ (some a) :: st) h = gO h a 9 (ex cal k_C_count 52 (ls) (gf h a 0 :: st) h) := e_gf cal rfl
theorem u_C_count_52 : ex cal k_C_count 52 (ls) (aQ (some a) :: st) h = gO h a 7 (ex cal k_C_count 55 (ls) (gf h a 0 :: st) h) := e_gf cal rfl
theorem u_C_count_55 : ex cal k_C_count 55 (ls) ([aI v]) h = some (some (aI v), h) := e_ret1 cal rfl
theorem u_C_count_56 : ex cal k_C_count 56 (aQ r :: ls) (st) h = ex cal k_C_count 57 (aQ r :: ls) (aQ r :: st) h := ex_st cal (s := s_ald 0 57) rfl rfl
theorem u_C_count_57 : ex cal k_C_count 57 (ls) (aQ (some a) :: st) h = gO h a 9 (ex cal k_C_count 60 (ls) (gf h a 0 :: st) h) := e_gf cal rfl
theorem u_C_count_60 : ex cal k_C_count 60 (ls) (aQ (some a) :: st) h = gO h a 7 (ex cal k_C_count 63 (ls) (gf h a 8 :: st) h) := e_gf cal rfl
theorem u_C_count_63 : ex cal k_C_count 63 (ls) ([aI v]) h = some (some (aI v), h) := e_ret1 cal rfl
theorem u_C_count_64 : ex cal k_C_count 64 (aQ r :: ls) (st) h = ex cal k_C_count 65 (aQ r :: ls) (aQ r :: st) h := ex_st cal (s := s_ald 0 65) rfl rfl
theorem u_C_count_65 : ex cal k_C_count 65 (ls) (aQ (some a) :: st) h = gO h a 9 (ex cal k_C_count 68 (ls) (gf h a 0 :: st) h) := e_gf cal rfl
theorem u_C_count_68 : ex cal k_C_count 68 (ls) (aQ (some a) :: st) h = gO h a 7 (ex cal k_C_count 71 (ls) (gf h a 3 :: st) h) := e_gf cal rfl
theorem u_C_count_71 : ex cal k_C_count 71 (ls) ([aI v]) h = some (some (aI v), h) := e_ret1 cal rfl
theorem u_C_count_72 : ex cal k_C_count 72 (aQ r :: ls) (st) h = ex cal k_C_count 73 (aQ r :: ls) (aQ r :: st) h := ex_st cal (s := s_ald 0 73) rfl rfl
theorem u_C_count_73 : ex cal k_C_count 73 (ls) (aQ (some a) :: st) h = gO h a 9 (ex cal k_C_count 76 (ls) (gf h a 0 :: st) h) := e_gf cal rfl
theorem u_C_count_76 : ex cal k_C_count 76 (ls) (aQ (some a) :: st) h = gO h a 7 (ex cal k_C_count 79 (ls) (gf h a 4 :: st) h) := e_gf cal rfl
theorem u_C_count_79 : ex cal k_C_count 79 (ls) ([aI v]) h = some (some (aI v), h) := e_ret1 cal rfl
theorem u_C_count_80 : ex cal k_C_count 80 (aQ r :: ls) (st) h = ex cal k_C_count 81 (aQ r :: ls) (aQ r :: st) h := ex_st cal (s := s_ald 0 81) rfl rfl
theorem u_C_count_81 : ex cal k_C_count 81 (ls) (aQ (some a) :: st) h = gO h a 9 (ex cal k_C_count 84 (ls) (gf h a 0 :: st) h) := e_gf cal rfl
theorem u_C_count_84 : ex cal k_C_count 84 (ls) (aQ (some a) :: st) h = gO h a 7 (ex cal k_C_count 87 (ls) (gf h a 5 :: st) h) := e_gf cal rfl
theorem u_C_count_87 : ex cal k_C_count 87 (ls) ([aI v]) h = some (some (aI v), h) := e_ret1 cal rfl
theorem u_C_count_88 : ex cal k_C_count 88 (aQ r :: ls) (st) h = ex cal k_C_count 89 (aQ r :: ls) (aQ r :: st) h := ex_st cal (s := s_ald 0 89) rfl rfl
theorem u_C_count_89 : ex cal k_C_count 89 (ls) (aQ (some a) :: st) h = gO h a 9 (ex cal k_C_count 92 (ls) (gf h a 0 :: st) h) := e_gf cal rfl
theorem u_C_count_92 : ex cal k_C_count 92 (ls) (aQ (some a) :: st) h = gO h a 7 (ex cal k_C_count 95 (ls) (gf h a 2 :: st) h) := e_gf cal rfl
theorem u_C_count_95 (hl : Nat.ble st.length 4 = true) : ex cal k_C_count 95 (ls) (aI z0 :: st) h = kk cal k_C_count 98 ls st (cal M_J_bitCount [aI z0] h) := e_call cal (as := [aI z0]) rfl rfl (Nat.le_of_ble_eq_true hl)
theorem u_C_count_98 : ex cal k_C_count 98 (ls) ([aI v]) h = some (some (aI v), h) := e_ret1 cal rfl
theorem u_C_count_99 : ex cal k_C_count 99 (aQ r :: ls) (st) h = ex cal k_C_count 100 (aQ r :: ls) (aQ r :: st) h := ex_st cal (s := s_ald 0 100) rfl rfl
theorem u_C_count_100 (hl : Nat.ble st.length 4 = true) : ex cal k_C_count 100 (ls) (aQ (some a) :: st) h = gO h a 9 (kk cal k_C_count 103 ls st (cal M_C_countLone [aQ (some a)] h)) := e_callV cal (ci := 9) (as := []) rfl (by decide) rfl (Nat.le_of_ble_eq_true hl)
theorem u_C_count_103 : ex cal k_C_count 103 (ls) ([aI v]) h = some (some (aI v), h) := e_ret1 cal rfl
theorem u_C_count_104 : ex cal k_C_count 104 (aQ r :: ls) (st) h = ex cal k_C_count 105 (aQ r :: ls) (aQ r :: st) h := ex_st cal (s := s_ald 0 105) rfl rfl
theorem u_C_count_105 : ex cal k_C_count 105 (ls) (aQ (some a) :: st) h = gO h a 9 (ex cal k_C_count 108 (ls) (gf h a 5 :: st) h) := e_gf cal rfl
theorem u_C_count_108 : ex cal k_C_count 108 (ls) (aQ (some a) :: st) h = gO h a 0 (ex cal k_C_count 111 (ls) (gf h a 1 :: st) h) := e_gf cal rfl
theorem u_C_count_111 : ex cal k_C_count 111 (ls) ([aI v]) h = some (some (aI v), h) := e_ret1 cal rfl
theorem u_C_count_112 : ex cal k_C_count 112 (ls) (st) h = ex cal k_C_count 113 (ls) (aI (-1) :: st) h := e_push cal rfl
theorem u_C_count_113 : ex cal k_C_count 113 (ls) ([aI v]) h = some (some (aI v), h) := e_ret1 cal rfl
theorem n_C_count (d : Nat) : ev (d + 1) M_C_count [aQ (some a), aI z0] h = ex (ev d) k_C_count 0 [aQ (some a), aI z0] [] h := rfl
theorem u_C_act_0 : ex cal k_C_act 0 (aQ r :: ls) (st) h = ex cal k_C_act 1 (aQ r :: ls) (aQ r :: st) h := ex_st cal (s := s_ald 0 1) rfl rfl
theorem u_C_act_1 : ex cal k_C_act 1 (ls) (aQ (some a) :: st) h = gO h a 9 (ex cal k_C_act 4 (ls) (gf h a 0 :: st) h) := e_gf cal rfl
theorem u_C_act_4 : ex cal k_C_act 4 (x0 :: aI v :: ls) (st) h = ex cal k_C_act 5 (x0 :: aI v :: ls) (aI v :: st) h := ex_st cal (s := s_ild 1 5) rfl rfl
theorem u_C_act_5 (hl : Nat.ble st.length 4 = true) : ex cal k_C_act 5 (ls) (aI z0 :: aQ (some a) :: st) h = gO h a 7 (kk cal k_C_act 8 ls st (cal M_St_changeOf [aQ (some a), aI z0] h)) := e_callV cal (ci := 7) (as := [aI z0]) rfl (by decide) rfl (Nat.le_of_ble_eq_true hl)
theorem u_C_act_8 (hx : aNl x3 = true) : ex cal k_C_act 8 (x0 :: x1 :: x2 :: x3 :: y :: ls) (aQ r :: st) h = ex cal k_C_act 10 (x0 :: x1 :: x2 :: x3 :: aQ r :: ls) (st) h := e_ast (ls := x0 :: x1 :: x2 :: x3 :: y :: ls) (k := 4) rfl hx (by simp only [List.length_cons]; omega)
theorem u_C_act_10 : ex cal k_C_act 10 (x0 :: x1 :: x2 :: x3 :: aQ r :: ls) (st) h = ex cal k_C_act 12 (x0 :: x1 :: x2 :: x3 :: aQ r :: ls) (aQ r :: st) h := ex_st cal (s := s_ald 4 12) rfl rfl
theorem u_C_act_12 : ex cal k_C_act 12 (ls) (aQ r :: st) h = if r = none then ex cal k_C_act 24 (ls) (st) h else ex cal k_C_act 15 (ls) (st) h := e_nul cal rfl
theorem u_C_act_15 : ex cal k_C_act 15 (x0 :: x1 :: aI v :: ls) (st) h = ex cal k_C_act 16 (x0 :: x1 :: aI v :: ls) (aI v :: st) h := ex_st cal (s := s_ild 2 16) rfl rfl
theorem u_C_act_16 : ex cal k_C_act 16 (ls) (aI i :: st) h = if wr i < 0 then ex cal k_C_act 24 (ls) (st) h else ex cal k_C_act 19 (ls) (st) h := e_iflt cal rfl
theorem u_C_act_19 : ex cal k_C_act 19 (x0 :: x1 :: aI v :: ls) (st) h = ex cal k_C_act 20 (x0 :: x1 :: aI v :: ls) (aI v :: st) h := ex_st cal (s := s_ild 2 20) rfl rfl
theorem u_C_act_20 : ex cal k_C_act 20 (ls) (st) h = ex cal k_C_act 21 (ls) (aI 4 :: st) h := e_push cal rfl
theorem u_C_act_21 : ex cal k_C_act 21 (ls) (aI j :: aI i :: st) h = if wr i < wr j then ex cal k_C_act 30 (ls) (st) h else ex cal k_C_act 24 (ls) (st) h := e_iclt cal rfl
theorem u_C_act_24 : ex cal k_C_act 24 (aQ r :: ls) (st) h = ex cal k_C_act 25 (aQ r :: ls) (aQ r :: st) h := ex_st cal (s := s_ald 0 25) rfl rfl
theorem u_C_act_25 : ex cal k_C_act 25 (ls) (st) h = ex cal k_C_act 26 (ls) (aI 1 :: st) h := e_push cal rfl
theorem u_C_act_26 (hl : Nat.ble st.length 4 = true) : ex cal k_C_act 26 (ls) (aI z0 :: aQ (some a) :: st) h = gO h a 9 (kk cal k_C_act 29 ls st (cal M_C_refused [aQ (some a), aI z0] h)) := e_callV cal (ci := 9) (as := [aI z0]) rfl (by decide) rfl (Nat.le_of_ble_eq_true hl)
theorem u_C_act_29 : ex cal k_C_act 29 (ls) ([aI v]) h = some (some (aI v), h) := e_ret1 cal rfl
theorem u_C_act_30 : ex cal k_C_act 30 (aQ r :: ls) (st) h = ex cal k_C_act 31 (aQ r :: ls) (aQ r :: st) h := ex_st cal (s := s_ald 0 31) rfl rfl
theorem u_C_act_31 : ex cal k_C_act 31 (aQ r :: ls) (st) h = ex cal k_C_act 32 (aQ r :: ls) (aQ r :: st) h := ex_st cal (s := s_ald 0 32) rfl rfl
theorem u_C_act_32 : ex cal k_C_act 32 (ls) (aQ (some a) :: st) h = gO h a 9 (ex cal k_C_act 35 (ls) (gf h a 5 :: st) h) := e_gf cal rfl
theorem u_C_act_35 : ex cal k_C_act 35 (x0 :: x1 :: x2 :: x3 :: aQ r :: ls) (st) h = ex cal k_C_act 37 (x0 :: x1 :: x2 :: x3 :: aQ r :: ls) (aQ r :: st) h := ex_st cal (s := s_ald 4 37) rfl rfl
theorem u_C_act_37 : ex cal k_C_act 37 (x0 :: x1 :: aI v :: ls) (st) h = ex cal k_C_act 38 (x0 :: x1 :: aI v :: ls) (aI v :: st) h := ex_st cal (s := s_ild 2 38) rfl rfl
theorem u_C_act_38 : ex cal k_C_act 38 (x0 :: x1 :: x2 :: aI v :: ls) (st) h = ex cal k_C_act 39 (x0 :: x1 :: x2 :: aI v :: ls) (aI v :: st) h := ex_st cal (s := s_ild 3 39) rfl rfl
theorem u_C_act_39 (hl : Nat.ble st.length 4 = true) : ex cal k_C_act 39 (ls) (aI z2 :: aI z1 :: aQ r0 :: aQ (some a) :: st) h = gO h a 0 (kk cal k_C_act 42 ls st (cal M_A_perform [aQ (some a), aQ r0, aI z1, aI z2] h)) := e_callV cal (ci := 0) (as := [aI z2, aI z1, aQ r0]) rfl (by decide) rfl (Nat.le_of_ble_eq_true hl)
theorem u_C_act_42 (hl : Nat.ble st.length 4 = true) : ex cal k_C_act 42 (ls) (aI z0 :: aQ (some a) :: st) h = gO h a 9 (kk cal k_C_act 45 ls st (cal M_C_done [aQ (some a), aI z0] h)) := e_callV cal (ci := 9) (as := [aI z0]) rfl (by decide) rfl (Nat.le_of_ble_eq_true hl)
theorem u_C_act_45 : ex cal k_C_act 45 (ls) ([aI v]) h = some (some (aI v), h) := e_ret1 cal rfl
theorem n_C_act (d : Nat) : ev (d + 1) M_C_act [aQ (some a), aI z0, aI z1, aI z2] h = ex (ev d) k_C_act 0 [aQ (some a), aI z0, aI z1, aI z2, aU] [] h := rfl
theorem u_C_trace_0 : ex cal k_C_trace 0 (x0 :: aI v :: ls) (st) h = ex cal k_C_trace 1 (x0 :: aI v :: ls) (aI v :: st) h := ex_st cal (s := s_ild 1 1) rfl rfl
theorem u_C_trace_1 : ex cal k_C_trace 1 (ls) (aI i :: st) h = if wr i < 0 then ex cal k_C_trace 15 (ls) (st) h else ex cal k_C_trace 4 (ls) (st) h := e_iflt cal rfl
theorem u_C_trace_4 : ex cal k_C_trace 4 (x0 :: aI v :: ls) (st) h = ex cal k_C_trace 5 (x0 :: aI v :: ls) (aI v :: st) h := ex_st cal (s := s_ild 1 5) rfl rfl
theorem u_C_trace_5 : ex cal k_C_trace 5 (aQ r :: ls) (st) h = ex cal k_C_trace 6 (aQ r :: ls) (aQ r :: st) h := ex_st cal (s := s_ald 0 6) rfl rfl
theorem u_C_trace_6 : ex cal k_C_trace 6 (ls) (aQ (some a) :: st) h = gO h a 9 (ex cal k_C_trace 9 (ls) (gf h a 5 :: st) h) := e_gf cal rfl
theorem u_C_trace_9 : ex cal k_C_trace 9 (ls) (aQ (some a) :: st) h = gO h a 0 (ex cal k_C_trace 12 (ls) (gf h a 1 :: st) h) := e_gf cal rfl
theorem u_C_trace_12 : ex cal k_C_trace 12 (ls) (aI j :: aI i :: st) h = if wr i < wr j then ex cal k_C_trace 19 (ls) (st) h else ex cal k_C_trace 15 (ls) (st) h := e_iclt cal rfl
theorem u_C_trace_15 : ex cal k_C_trace 15 (ls) (st) h = ex cal k_C_trace 16 (ls) (aI (-1) :: st) h := e_push cal rfl
theorem u_C_trace_16 : ex cal k_C_trace 16 (ls) (st) h = ex cal k_C_trace 28 (ls) (st) h := ex_st cal (s := s_go 28) rfl rfl
theorem u_C_trace_19 : ex cal k_C_trace 19 (aQ r :: ls) (st) h = ex cal k_C_trace 20 (aQ r :: ls) (aQ r :: st) h := ex_st cal (s := s_ald 0 20) rfl rfl
theorem u_C_trace_20 : ex cal k_C_trace 20 (ls) (aQ (some a) :: st) h = gO h a 9 (ex cal k_C_trace 23 (ls) (gf h a 5 :: st) h) := e_gf cal rfl
theorem u_C_trace_23 : ex cal k_C_trace 23 (ls) (aQ (some a) :: st) h = gO h a 0 (ex cal k_C_trace 26 (ls) (gf h a 0 :: st) h) := e_gf cal rfl
theorem u_C_trace_26 : ex cal k_C_trace 26 (x0 :: aI v :: ls) (st) h = ex cal k_C_trace 27 (x0 :: aI v :: ls) (aI v :: st) h := ex_st cal (s := s_ild 1 27) rfl rfl
theorem u_C_trace_27 : ex cal k_C_trace 27 (ls) (aI i :: aQ (some a) :: st) h = gA h a i (ex cal k_C_trace 28 (ls) (aI (ai h a (wr i)) :: st) h) := e_ia cal rfl
theorem u_C_trace_28 : ex cal k_C_trace 28 (ls) ([aI v]) h = some (some (aI v), h) := e_ret1 cal rfl
theorem n_C_trace (d : Nat) : ev (d + 1) M_C_trace [aQ (some a), aI z0] h = ex (ev d) k_C_trace 0 [aQ (some a), aI z0] [] h := rfl
theorem u_C_sheet_0 : ex cal k_C_sheet 0 (aQ r :: ls) (st) h = ex cal k_C_sheet 1 (aQ r :: ls) (aQ r :: st) h := ex_st cal (s := s_ald 0 1) rfl rfl
theorem u_C_sheet_1 : ex cal k_C_sheet 1 (x0 :: aI v :: ls) (st) h = ex cal k_C_sheet 2 (x0 :: aI v :: ls) (aI v :: st) h := ex_st cal (s := s_ild 1 2) rfl rfl
theorem u_C_sheet_2 (hl : Nat.ble st.length 4 = true) : ex cal k_C_sheet 2 (ls) (aI z0 :: aQ (some a) :: st) h = gO h a 9 (kk cal k_C_sheet 5 ls st (cal M_C_sheetOf [aQ (some a), aI z0] h)) := e_callV cal (ci := 9) (as := [aI z0]) rfl (by decide) rfl (Nat.le_of_ble_eq_true hl)
theorem u_C_sheet_5 (hx : aNl x3 = true) : ex cal k_C_sheet 5 (x0 :: x1 :: x2 :: x3 :: y :: ls) (aQ r :: st) h = ex cal k_C_sheet 7 (x0 :: x1 :: x2 :: x3 :: aQ r :: ls) (st) h := e_ast (ls := x0 :: x1 :: x2 :: x3 :: y :: ls) (k := 4) rfl hx (by simp only [List.length_cons]; omega)
theorem u_C_sheet_7 : ex cal k_C_sheet 7 (x0 :: x1 :: x2 :: x3 :: aQ r :: ls) (st) h = ex cal k_C_sheet 9 (x0 :: x1 :: x2 :: x3 :: aQ r :: ls) (aQ r :: st) h := ex_st cal (s := s_ald 4 9) rfl rfl
theorem u_C_sheet_9 : ex cal k_C_sheet 9 (ls) (aQ r :: st) h = if r = none then ex cal k_C_sheet 22 (ls) (st) h else ex cal k_C_sheet 12 (ls) (st) h := e_nul cal rfl
theorem u_C_sheet_12 : ex cal k_C_sheet 12 (x0 :: x1 :: aI v :: ls) (st) h = ex cal k_C_sheet 13 (x0 :: x1 :: aI v :: ls) (aI v :: st) h := ex_st cal (s := s_ild 2 13) rfl rfl
theorem u_C_sheet_13 : ex cal k_C_sheet 13 (ls) (st) h = ex cal k_C_sheet 14 (ls) (aI (-1) :: st) h := e_push cal rfl
theorem u_C_sheet_14 : ex cal k_C_sheet 14 (ls) (aI j :: aI i :: st) h = if wr i < wr j then ex cal k_C_sheet 22 (ls) (st) h else ex cal k_C_sheet 17 (ls) (st) h := e_iclt cal rfl
theorem u_C_sheet_17 : ex cal k_C_sheet 17 (x0 :: x1 :: aI v :: ls) (st) h = ex cal k_C_sheet 18 (x0 :: x1 :: aI v :: ls) (aI v :: st) h := ex_st cal (s := s_ild 2 18) rfl rfl
theorem u_C_sheet_18 : ex cal k_C_sheet 18 (ls) (st) h = ex cal k_C_sheet 19 (ls) (aI 2 :: st) h := e_push cal rfl
theorem u_C_sheet_19 : ex cal k_C_sheet 19 (ls) (aI j :: aI i :: st) h = if wr j < wr i then ex cal k_C_sheet 22 (ls) (st) h else ex cal k_C_sheet 28 (ls) (st) h := e_icle cal rfl
theorem u_C_sheet_22 : ex cal k_C_sheet 22 (aQ r :: ls) (st) h = ex cal k_C_sheet 23 (aQ r :: ls) (aQ r :: st) h := ex_st cal (s := s_ald 0 23) rfl rfl
theorem u_C_sheet_23 : ex cal k_C_sheet 23 (ls) (st) h = ex cal k_C_sheet 24 (ls) (aI 1 :: st) h := e_push cal rfl
theorem u_C_sheet_24 (hl : Nat.ble st.length 4 = true) : ex cal k_C_sheet 24 (ls) (aI z0 :: aQ (some a) :: st) h = gO h a 9 (kk cal k_C_sheet 27 ls st (cal M_C_refused [aQ (some a), aI z0] h)) := e_callV cal (ci := 9) (as := [aI z0]) rfl (by decide) rfl (Nat.le_of_ble_eq_true hl)
theorem u_C_sheet_27 : ex cal k_C_sheet 27 (ls) ([aI v]) h = some (some (aI v), h) := e_ret1 cal rfl
theorem u_C_sheet_28 : ex cal k_C_sheet 28 (x0 :: x1 :: aI v :: ls) (st) h = ex cal k_C_sheet 29 (x0 :: x1 :: aI v :: ls) (aI v :: st) h := ex_st cal (s := s_ild 2 29) rfl rfl
theorem u_C_sheet_29 : ex cal k_C_sheet 29 (ls) (st) h = ex cal k_C_sheet 30 (ls) (aI (-1) :: st) h := e_push cal rfl
theorem u_C_sheet_30 : ex cal k_C_sheet 30 (ls) (aI j :: aI i :: st) h = if wr i = wr j then ex cal k_C_sheet 49 (ls) (st) h else ex cal k_C_sheet 33 (ls) (st) h := e_iceq cal rfl
theorem u_C_sheet_33 : ex cal k_C_sheet 33 (x0 :: x1 :: x2 :: aI v :: ls) (st) h = ex cal k_C_sheet 34 (x0 :: x1 :: x2 :: aI v :: ls) (aI v :: st) h := ex_st cal (s := s_ild 3 34) rfl rfl
theorem u_C_sheet_34 : ex cal k_C_sheet 34 (ls) (aI i :: st) h = if wr i < 0 then ex cal k_C_sheet 43 (ls) (st) h else ex cal k_C_sheet 37 (ls) (st) h := e_iflt cal rfl
theorem u_C_sheet_37 : ex cal k_C_sheet 37 (x0 :: x1 :: x2 :: aI v :: ls) (st) h = ex cal k_C_sheet 38 (x0 :: x1 :: x2 :: aI v :: ls) (aI v :: st) h := ex_st cal (s := s_ild 3 38) rfl rfl
theorem u_C_sheet_38 : ex cal k_C_sheet 38 (ls) (st) h = ex cal k_C_sheet 40 (ls) (aI 40 :: st) h := e_push cal rfl
theorem u_C_sheet_40 : ex cal k_C_sheet 40 (ls) (aI j :: aI i :: st) h = if wr j < wr i then ex cal k_C_sheet 43 (ls) (st) h else ex cal k_C_sheet 49 (ls) (st) h := e_icle cal rfl
theorem u_C_sheet_43 : ex cal k_C_sheet 43 (aQ r :: ls) (st) h = ex cal k_C_sheet 44 (aQ r :: ls) (aQ r :: st) h := ex_st cal (s := s_ald 0 44) rfl rfl
theorem u_C_sheet_44 : ex cal k_C_sheet 44 (ls) (st) h = ex cal k_C_sheet 45 (ls) (aI 1 :: st) h := e_push cal rfl
theorem u_C_sheet_45 (hl : Nat.ble st.length 4 = true) : ex cal k_C_sheet 45 (ls) (aI z0 :: aQ (some a) :: st) h = gO h a 9 (kk cal k_C_sheet 48 ls st (cal M_C_refused [aQ (some a), aI z0] h)) := e_callV cal (ci := 9) (as := [aI z0]) rfl (by decide) rfl (Nat.le_of_ble_eq_true hl)
theorem u_C_sheet_48 : ex cal k_C_sheet 48 (ls) ([aI v]) h = some (some (aI v), h) := e_ret1 cal rfl
theorem u_C_sheet_49 : ex cal k_C_sheet 49 (x0 :: x1 :: x2 :: x3 :: aQ r :: ls) (st) h = ex cal k_C_sheet 51 (x0 :: x1 :: x2 :: x3 :: aQ r :: ls) (aQ r :: st) h := ex_st cal (s := s_ald 4 51) rfl rfl
theorem u_C_sheet_51 : ex cal k_C_sheet 51 (x0 :: x1 :: aI v :: ls) (st) h = ex cal k_C_sheet 52 (x0 :: x1 :: aI v :: ls) (aI v :: st) h := ex_st cal (s := s_ild 2 52) rfl rfl
theorem u_C_sheet_52 : ex cal k_C_sheet 52 (x0 :: x1 :: aI v :: ls) (st) h = ex cal k_C_sheet 53 (x0 :: x1 :: aI v :: ls) (aI v :: st) h := ex_st cal (s := s_ild 2 53) rfl rfl
theorem u_C_sheet_53 : ex cal k_C_sheet 53 (ls) (st) h = ex cal k_C_sheet 54 (ls) (aI (-1) :: st) h := e_push cal rfl
theorem u_C_sheet_54 : ex cal k_C_sheet 54 (ls) (aI j :: aI i :: st) h = if wr i = wr j then ex cal k_C_sheet 57 (ls) (st) h else ex cal k_C_sheet 61 (ls) (st) h := e_icne cal rfl
theorem u_C_sheet_57 : ex cal k_C_sheet 57 (ls) (st) h = ex cal k_C_sheet 58 (ls) (aI 0 :: st) h := e_push cal rfl
theorem u_C_sheet_58 : ex cal k_C_sheet 58 (ls) (st) h = ex cal k_C_sheet 62 (ls) (st) h := ex_st cal (s := s_go 62) rfl rfl
theorem u_C_sheet_61 : ex cal k_C_sheet 61 (x0 :: x1 :: x2 :: aI v :: ls) (st) h = ex cal k_C_sheet 62 (x0 :: x1 :: x2 :: aI v :: ls) (aI v :: st) h := ex_st cal (s := s_ild 3 62) rfl rfl
theorem u_C_sheet_62 (hl : Nat.ble st.length 4 = true) : ex cal k_C_sheet 62 (ls) (aI z1 :: aI z0 :: aQ (some a) :: st) h = gO h a 6 (kk cal k_C_sheet 65 ls st (cal M_Sh_begin [aQ (some a), aI z0, aI z1] h)) := e_callV cal (ci := 6) (as := [aI z1, aI z0]) rfl (by decide) rfl (Nat.le_of_ble_eq_true hl)
theorem u_C_sheet_65 : ex cal k_C_sheet 65 (aQ r :: ls) (st) h = ex cal k_C_sheet 66 (aQ r :: ls) (aQ r :: st) h := ex_st cal (s := s_ald 0 66) rfl rfl
theorem u_C_sheet_66 : ex cal k_C_sheet 66 (ls) (st) h = ex cal k_C_sheet 67 (ls) (aI 1 :: st) h := e_push cal rfl
theorem u_C_sheet_67 (hl : Nat.ble st.length 4 = true) : ex cal k_C_sheet 67 (ls) (aI z0 :: aQ (some a) :: st) h = gO h a 9 (kk cal k_C_sheet 70 ls st (cal M_C_done [aQ (some a), aI z0] h)) := e_callV cal (ci := 9) (as := [aI z0]) rfl (by decide) rfl (Nat.le_of_ble_eq_true hl)
theorem u_C_sheet_70 : ex cal k_C_sheet 70 (ls) ([aI v]) h = some (some (aI v), h) := e_ret1 cal rfl
theorem n_C_sheet (d : Nat) : ev (d + 1) M_C_sheet [aQ (some a), aI z0, aI z1, aI z2] h = ex (ev d) k_C_sheet 0 [aQ (some a), aI z0, aI z1, aI z2, aU] [] h := rfl
theorem u_C_cell_0 : ex cal k_C_cell 0 (aQ r :: ls) (st) h = ex cal k_C_cell 1 (aQ r :: ls) (aQ r :: st) h := ex_st cal (s := s_ald 0 1) rfl rfl
theorem u_C_cell_1 : ex cal k_C_cell 1 (x0 :: aI v :: ls) (st) h = ex cal k_C_cell 2 (x0 :: aI v :: ls) (aI v :: st) h := ex_st cal (s := s_ild 1 2) rfl rfl
theorem u_C_cell_2 (hl : Nat.ble st.length 4 = true) : ex cal k_C_cell 2 (ls) (aI z0 :: aQ (some a) :: st) h = gO h a 9 (kk cal k_C_cell 5 ls st (cal M_C_sheetOf [aQ (some a), aI z0] h)) := e_callV cal (ci := 9) (as := [aI z0]) rfl (by decide) rfl (Nat.le_of_ble_eq_true hl)
theorem u_C_cell_5 (hx : aNl x3 = true) : ex cal k_C_cell 5 (x0 :: x1 :: x2 :: x3 :: y :: ls) (aQ r :: st) h = ex cal k_C_cell 7 (x0 :: x1 :: x2 :: x3 :: aQ r :: ls) (st) h := e_ast (ls := x0 :: x1 :: x2 :: x3 :: y :: ls) (k := 4) rfl hx (by simp only [List.length_cons]; omega)
theorem u_C_cell_7 : ex cal k_C_cell 7 (x0 :: x1 :: x2 :: x3 :: aQ r :: ls) (st) h = ex cal k_C_cell 9 (x0 :: x1 :: x2 :: x3 :: aQ r :: ls) (aQ r :: st) h := ex_st cal (s := s_ald 4 9) rfl rfl
theorem u_C_cell_9 : ex cal k_C_cell 9 (ls) (aQ r :: st) h = if r = none then ex cal k_C_cell 26 (ls) (st) h else ex cal k_C_cell 12 (ls) (st) h := e_nul cal rfl
theorem u_C_cell_12 : ex cal k_C_cell 12 (x0 :: x1 :: x2 :: aI v :: ls) (st) h = ex cal k_C_cell 13 (x0 :: x1 :: x2 :: aI v :: ls) (aI v :: st) h := ex_st cal (s := s_ild 3 13) rfl rfl
theorem u_C_cell_13 : ex cal k_C_cell 13 (ls) (st) h = ex cal k_C_cell 16 (ls) (aI (-10000) :: st) h := e_push cal rfl
theorem u_C_cell_16 : ex cal k_C_cell 16 (ls) (aI j :: aI i :: st) h = if wr i < wr j then ex cal k_C_cell 26 (ls) (st) h else ex cal k_C_cell 19 (ls) (st) h := e_iclt cal rfl
theorem u_C_cell_19 : ex cal k_C_cell 19 (x0 :: x1 :: x2 :: aI v :: ls) (st) h = ex cal k_C_cell 20 (x0 :: x1 :: x2 :: aI v :: ls) (aI v :: st) h := ex_st cal (s := s_ild 3 20) rfl rfl
theorem u_C_cell_20 : ex cal k_C_cell 20 (ls) (st) h = ex cal k_C_cell 23 (ls) (aI 10000 :: st) h := e_push cal rfl
theorem u_C_cell_23 : ex cal k_C_cell 23 (ls) (aI j :: aI i :: st) h = if wr j < wr i then ex cal k_C_cell 26 (ls) (st) h else ex cal k_C_cell 32 (ls) (st) h := e_icle cal rfl
theorem u_C_cell_26 : ex cal k_C_cell 26 (aQ r :: ls) (st) h = ex cal k_C_cell 27 (aQ r :: ls) (aQ r :: st) h := ex_st cal (s := s_ald 0 27) rfl rfl
theorem u_C_cell_27 : ex cal k_C_cell 27 (ls) (st) h = ex cal k_C_cell 28 (ls) (aI 1 :: st) h := e_push cal rfl
theorem u_C_cell_28 (hl : Nat.ble st.length 4 = true) : ex cal k_C_cell 28 (ls) (aI z0 :: aQ (some a) :: st) h = gO h a 9 (kk cal k_C_cell 31 ls st (cal M_C_refused [aQ (some a), aI z0] h)) := e_callV cal (ci := 9) (as := [aI z0]) rfl (by decide) rfl (Nat.le_of_ble_eq_true hl)
theorem u_C_cell_31 : ex cal k_C_cell 31 (ls) ([aI v]) h = some (some (aI v), h) := e_ret1 cal rfl
theorem u_C_cell_32 : ex cal k_C_cell 32 (x0 :: x1 :: x2 :: x3 :: aQ r :: ls) (st) h = ex cal k_C_cell 34 (x0 :: x1 :: x2 :: x3 :: aQ r :: ls) (aQ r :: st) h := ex_st cal (s := s_ald 4 34) rfl rfl
theorem u_C_cell_34 : ex cal k_C_cell 34 (ls) (aQ (some a) :: st) h = gO h a 6 (ex cal k_C_cell 37 (ls) (gf h a 0 :: st) h) := e_gf cal rfl
theorem u_C_cell_37 : ex cal k_C_cell 37 (ls) (st) h = ex cal k_C_cell 38 (ls) (aI (-1) :: st) h := e_push cal rfl
theorem u_C_cell_38 : ex cal k_C_cell 38 (ls) (aI j :: aI i :: st) h = if wr i = wr j then ex cal k_C_cell 41 (ls) (st) h else ex cal k_C_cell 48 (ls) (st) h := e_icne cal rfl
theorem u_C_cell_41 : ex cal k_C_cell 41 (aQ r :: ls) (st) h = ex cal k_C_cell 42 (aQ r :: ls) (aQ r :: st) h := ex_st cal (s := s_ald 0 42) rfl rfl
theorem u_C_cell_42 : ex cal k_C_cell 42 (ls) (st) h = ex cal k_C_cell 44 (ls) (aI 10 :: st) h := e_push cal rfl
theorem u_C_cell_44 (hl : Nat.ble st.length 4 = true) : ex cal k_C_cell 44 (ls) (aI z0 :: aQ (some a) :: st) h = gO h a 9 (kk cal k_C_cell 47 ls st (cal M_C_refused [aQ (some a), aI z0] h)) := e_callV cal (ci := 9) (as := [aI z0]) rfl (by decide) rfl (Nat.le_of_ble_eq_true hl)
theorem u_C_cell_47 : ex cal k_C_cell 47 (ls) ([aI v]) h = some (some (aI v), h) := e_ret1 cal rfl
theorem u_C_cell_48 : ex cal k_C_cell 48 (x0 :: x1 :: aI v :: ls) (st) h = ex cal k_C_cell 49 (x0 :: x1 :: aI v :: ls) (aI v :: st) h := ex_st cal (s := s_ild 2 49) rfl rfl
theorem u_C_cell_49 : ex cal k_C_cell 49 (ls) (aI i :: st) h = if wr i < 0 then ex cal k_C_cell 61 (ls) (st) h else ex cal k_C_cell 52 (ls) (st) h := e_iflt cal rfl
theorem u_C_cell_52 : ex cal k_C_cell 52 (x0 :: x1 :: aI v :: ls) (st) h = ex cal k_C_cell 53 (x0 :: x1 :: aI v :: ls) (aI v :: st) h := ex_st cal (s := s_ild 2 53) rfl rfl
theorem u_C_cell_53 : ex cal k_C_cell 53 (x0 :: x1 :: x2 :: x3 :: aQ r :: ls) (st) h = ex cal k_C_cell 55 (x0 :: x1 :: x2 :: x3 :: aQ r :: ls) (aQ r :: st) h := ex_st cal (s := s_ald 4 55) rfl rfl
theorem u_C_cell_55 : ex cal k_C_cell 55 (ls) (aQ (some a) :: st) h = gO h a 6 (ex cal k_C_cell 58 (ls) (gf h a 1 :: st) h) := e_gf cal rfl
theorem u_C_cell_58 : ex cal k_C_cell 58 (ls) (aI j :: aI i :: st) h = if wr i < wr j then ex cal k_C_cell 68 (ls) (st) h else ex cal k_C_cell 61 (ls) (st) h := e_iclt cal rfl
theorem u_C_cell_61 : ex cal k_C_cell 61 (aQ r :: ls) (st) h = ex cal k_C_cell 62 (aQ r :: ls) (aQ r :: st) h := ex_st cal (s := s_ald 0 62) rfl rfl
theorem u_C_cell_62 : ex cal k_C_cell 62 (ls) (st) h = ex cal k_C_cell 64 (ls) (aI 12 :: st) h := e_push cal rfl
theorem u_C_cell_64 (hl : Nat.ble st.length 4 = true) : ex cal k_C_cell 64 (ls) (aI z0 :: aQ (some a) :: st) h = gO h a 9 (kk cal k_C_cell 67 ls st (cal M_C_refused [aQ (some a), aI z0] h)) := e_callV cal (ci := 9) (as := [aI z0]) rfl (by decide) rfl (Nat.le_of_ble_eq_true hl)
theorem u_C_cell_67 : ex cal k_C_cell 67 (ls) ([aI v]) h = some (some (aI v), h) := e_ret1 cal rfl
theorem u_C_cell_68 : ex cal k_C_cell 68 (x0 :: x1 :: x2 :: x3 :: aQ r :: ls) (st) h = ex cal k_C_cell 70 (x0 :: x1 :: x2 :: x3 :: aQ r :: ls) (aQ r :: st) h := ex_st cal (s := s_ald 4 70) rfl rfl
theorem u_C_cell_70 : ex cal k_C_cell 70 (ls) (aQ (some a) :: st) h = gO h a 6 (ex cal k_C_cell 73 (ls) (gf h a 2 :: st) h) := e_gf cal rfl
theorem u_C_cell_73 : ex cal k_C_cell 73 (x0 :: x1 :: aI v :: ls) (st) h = ex cal k_C_cell 74 (x0 :: x1 :: aI v :: ls) (aI v :: st) h := ex_st cal (s := s_ild 2 74) rfl rfl
theorem u_C_cell_74 : ex cal k_C_cell 74 (x0 :: x1 :: x2 :: x3 :: aQ r :: ls) (st) h = ex cal k_C_cell 76 (x0 :: x1 :: x2 :: x3 :: aQ r :: ls) (aQ r :: st) h := ex_st cal (s := s_ald 4 76) rfl rfl
theorem u_C_cell_76 : ex cal k_C_cell 76 (ls) (aQ (some a) :: st) h = gO h a 6 (ex cal k_C_cell 79 (ls) (gf h a 0 :: st) h) := e_gf cal rfl
theorem u_C_cell_79 : ex cal k_C_cell 79 (ls) (aI i :: st) h = if wr i = 0 then ex cal k_C_cell 82 (ls) (st) h else ex cal k_C_cell 87 (ls) (st) h := e_ifne cal rfl
theorem u_C_cell_82 : ex cal k_C_cell 82 (x0 :: x1 :: x2 :: aI v :: ls) (st) h = ex cal k_C_cell 83 (x0 :: x1 :: x2 :: aI v :: ls) (aI v :: st) h := ex_st cal (s := s_ild 3 83) rfl rfl
theorem u_C_cell_83 : ex cal k_C_cell 83 (ls) (aI i :: st) h = ex cal k_C_cell 84 (ls) (aI (Int.bmod i 256) :: st) h := ex_st cal (s := s_i2b 84) rfl rfl
theorem u_C_cell_84 : ex cal k_C_cell 84 (ls) (st) h = ex cal k_C_cell 88 (ls) (st) h := ex_st cal (s := s_go 88) rfl rfl
theorem u_C_cell_87 : ex cal k_C_cell 87 (x0 :: x1 :: x2 :: aI v :: ls) (st) h = ex cal k_C_cell 88 (x0 :: x1 :: x2 :: aI v :: ls) (aI v :: st) h := ex_st cal (s := s_ild 3 88) rfl rfl
theorem u_C_cell_88 (h3 : 3 ≤ a) : ex cal k_C_cell 88 (ls) (aI v :: aI i :: aQ (some a) :: st) h = gA h a i (ex cal k_C_cell 89 (ls) (st) (sa h a (upf (ai h a) (wr i) v))) := e_ias cal rfl h3
theorem u_C_cell_89 : ex cal k_C_cell 89 (aQ r :: ls) (st) h = ex cal k_C_cell 90 (aQ r :: ls) (aQ r :: st) h := ex_st cal (s := s_ald 0 90) rfl rfl
theorem u_C_cell_90 : ex cal k_C_cell 90 (ls) (st) h = ex cal k_C_cell 91 (ls) (aI 1 :: st) h := e_push cal rfl
theorem u_C_cell_91 (hl : Nat.ble st.length 4 = true) : ex cal k_C_cell 91 (ls) (aI z0 :: aQ (some a) :: st) h = gO h a 9 (kk cal k_C_cell 94 ls st (cal M_C_done [aQ (some a), aI z0] h)) := e_callV cal (ci := 9) (as := [aI z0]) rfl (by decide) rfl (Nat.le_of_ble_eq_true hl)
theorem u_C_cell_94 : ex cal k_C_cell 94 (ls) ([aI v]) h = some (some (aI v), h) := e_ret1 cal rfl
theorem n_C_cell (d : Nat) : ev (d + 1) M_C_cell [aQ (some a), aI z0, aI z1, aI z2] h = ex (ev d) k_C_cell 0 [aQ (some a), aI z0, aI z1, aI z2, aU] [] h := rfl
theorem u_C_come_0 : ex cal k_C_come 0 (aQ r :: ls) (st) h = ex cal k_C_come 1 (aQ r :: ls) (aQ r :: st) h := ex_st cal (s := s_ald 0 1) rfl rfl
theorem u_C_come_1 : ex cal k_C_come 1 (x0 :: aI v :: ls) (st) h = ex cal k_C_come 2 (x0 :: aI v :: ls) (aI v :: st) h := ex_st cal (s := s_ild 1 2) rfl rfl
theorem u_C_come_2 (hl : Nat.ble st.length 4 = true) : ex cal k_C_come 2 (ls) (aI z0 :: aQ (some a) :: st) h = gO h a 9 (kk cal k_C_come 5 ls st (cal M_C_sheetOf [aQ (some a), aI z0] h)) := e_callV cal (ci := 9) (as := [aI z0]) rfl (by decide) rfl (Nat.le_of_ble_eq_true hl)
theorem u_C_come_5 (hx : aNl x2 = true) : ex cal k_C_come 5 (x0 :: x1 :: x2 :: y :: ls) (aQ r :: st) h = ex cal k_C_come 6 (x0 :: x1 :: x2 :: aQ r :: ls) (st) h := e_ast (ls := x0 :: x1 :: x2 :: y :: ls) (k := 3) rfl hx (by simp only [List.length_cons]; omega)
theorem u_C_come_6 : ex cal k_C_come 6 (x0 :: x1 :: x2 :: aQ r :: ls) (st) h = ex cal k_C_come 7 (x0 :: x1 :: x2 :: aQ r :: ls) (aQ r :: st) h := ex_st cal (s := s_ald 3 7) rfl rfl
theorem u_C_come_7 : ex cal k_C_come 7 (ls) (aQ r :: st) h = if r = none then ex cal k_C_come 19 (ls) (st) h else ex cal k_C_come 10 (ls) (st) h := e_nul cal rfl
theorem u_C_come_10 : ex cal k_C_come 10 (x0 :: x1 :: aI v :: ls) (st) h = ex cal k_C_come 11 (x0 :: x1 :: aI v :: ls) (aI v :: st) h := ex_st cal (s := s_ild 2 11) rfl rfl
theorem u_C_come_11 : ex cal k_C_come 11 (ls) (aI i :: st) h = if wr i < 0 then ex cal k_C_come 19 (ls) (st) h else ex cal k_C_come 14 (ls) (st) h := e_iflt cal rfl
theorem u_C_come_14 : ex cal k_C_come 14 (x0 :: x1 :: aI v :: ls) (st) h = ex cal k_C_come 15 (x0 :: x1 :: aI v :: ls) (aI v :: st) h := ex_st cal (s := s_ild 2 15) rfl rfl
theorem u_C_come_15 : ex cal k_C_come 15 (ls) (st) h = ex cal k_C_come 16 (ls) (aI 2 :: st) h := e_push cal rfl
theorem u_C_come_16 : ex cal k_C_come 16 (ls) (aI j :: aI i :: st) h = if wr j < wr i then ex cal k_C_come 19 (ls) (st) h else ex cal k_C_come 25 (ls) (st) h := e_icle cal rfl
theorem u_C_come_19 : ex cal k_C_come 19 (aQ r :: ls) (st) h = ex cal k_C_come 20 (aQ r :: ls) (aQ r :: st) h := ex_st cal (s := s_ald 0 20) rfl rfl
theorem u_C_come_20 : ex cal k_C_come 20 (ls) (st) h = ex cal k_C_come 21 (ls) (aI 1 :: st) h := e_push cal rfl
theorem u_C_come_21 (hl : Nat.ble st.length 4 = true) : ex cal k_C_come 21 (ls) (aI z0 :: aQ (some a) :: st) h = gO h a 9 (kk cal k_C_come 24 ls st (cal M_C_refused [aQ (some a), aI z0] h)) := e_callV cal (ci := 9) (as := [aI z0]) rfl (by decide) rfl (Nat.le_of_ble_eq_true hl)
theorem u_C_come_24 : ex cal k_C_come 24 (ls) ([aI v]) h = some (some (aI v), h) := e_ret1 cal rfl
theorem u_C_come_25 : ex cal k_C_come 25 (x0 :: x1 :: x2 :: aQ r :: ls) (st) h = ex cal k_C_come 26 (x0 :: x1 :: x2 :: aQ r :: ls) (aQ r :: st) h := ex_st cal (s := s_ald 3 26) rfl rfl
theorem u_C_come_26 : ex cal k_C_come 26 (ls) (aQ (some a) :: st) h = gO h a 6 (ex cal k_C_come 29 (ls) (gf h a 0 :: st) h) := e_gf cal rfl
theorem u_C_come_29 : ex cal k_C_come 29 (ls) (st) h = ex cal k_C_come 30 (ls) (aI (-1) :: st) h := e_push cal rfl
theorem u_C_come_30 : ex cal k_C_come 30 (ls) (aI j :: aI i :: st) h = if wr i = wr j then ex cal k_C_come 33 (ls) (st) h else ex cal k_C_come 40 (ls) (st) h := e_icne cal rfl
theorem u_C_come_33 : ex cal k_C_come 33 (aQ r :: ls) (st) h = ex cal k_C_come 34 (aQ r :: ls) (aQ r :: st) h := ex_st cal (s := s_ald 0 34) rfl rfl
theorem u_C_come_34 : ex cal k_C_come 34 (ls) (st) h = ex cal k_C_come 36 (ls) (aI 10 :: st) h := e_push cal rfl
theorem u_C_come_36 (hl : Nat.ble st.length 4 = true) : ex cal k_C_come 36 (ls) (aI z0 :: aQ (some a) :: st) h = gO h a 9 (kk cal k_C_come 39 ls st (cal M_C_refused [aQ (some a), aI z0] h)) := e_callV cal (ci := 9) (as := [aI z0]) rfl (by decide) rfl (Nat.le_of_ble_eq_true hl)
theorem u_C_come_39 : ex cal k_C_come 39 (ls) ([aI v]) h = some (some (aI v), h) := e_ret1 cal rfl
theorem u_C_come_40 : ex cal k_C_come 40 (x0 :: x1 :: x2 :: aQ r :: ls) (st) h = ex cal k_C_come 41 (x0 :: x1 :: x2 :: aQ r :: ls) (aQ r :: st) h := ex_st cal (s := s_ald 3 41) rfl rfl
theorem u_C_come_41 : ex cal k_C_come 41 (ls) (aQ (some a) :: st) h = gO h a 6 (ex cal k_C_come 44 (ls) (gf h a 0 :: st) h) := e_gf cal rfl
theorem u_C_come_44 : ex cal k_C_come 44 (x0 :: x1 :: aI v :: ls) (st) h = ex cal k_C_come 45 (x0 :: x1 :: aI v :: ls) (aI v :: st) h := ex_st cal (s := s_ild 2 45) rfl rfl
theorem u_C_come_45 : ex cal k_C_come 45 (ls) (aI j :: aI i :: st) h = if wr i = wr j then ex cal k_C_come 55 (ls) (st) h else ex cal k_C_come 48 (ls) (st) h := e_iceq cal rfl
theorem u_C_come_48 : ex cal k_C_come 48 (aQ r :: ls) (st) h = ex cal k_C_come 49 (aQ r :: ls) (aQ r :: st) h := ex_st cal (s := s_ald 0 49) rfl rfl
theorem u_C_come_49 : ex cal k_C_come 49 (ls) (st) h = ex cal k_C_come 51 (ls) (aI 11 :: st) h := e_push cal rfl
theorem u_C_come_51 (hl : Nat.ble st.length 4 = true) : ex cal k_C_come 51 (ls) (aI z0 :: aQ (some a) :: st) h = gO h a 9 (kk cal k_C_come 54 ls st (cal M_C_refused [aQ (some a), aI z0] h)) := e_callV cal (ci := 9) (as := [aI z0]) rfl (by decide) rfl (Nat.le_of_ble_eq_true hl)
theorem u_C_come_54 : ex cal k_C_come 54 (ls) ([aI v]) h = some (some (aI v), h) := e_ret1 cal rfl
theorem u_C_come_55 : ex cal k_C_come 55 (x0 :: x1 :: x2 :: aQ r :: ls) (st) h = ex cal k_C_come 56 (x0 :: x1 :: x2 :: aQ r :: ls) (aQ r :: st) h := ex_st cal (s := s_ald 3 56) rfl rfl
theorem u_C_come_56 : ex cal k_C_come 56 (ls) (aQ (some a) :: st) h = gO h a 6 (ex cal k_C_come 59 (ls) (gf h a 1 :: st) h) := e_gf cal rfl
theorem u_C_come_59 : ex cal k_C_come 59 (ls) (st) h = ex cal k_C_come 61 (ls) (aI 20 :: st) h := e_push cal rfl
theorem u_C_come_61 : ex cal k_C_come 61 (ls) (aI j :: aI i :: st) h = if wr j < wr i then ex cal k_C_come 64 (ls) (st) h else ex cal k_C_come 70 (ls) (st) h := e_icle cal rfl
theorem u_C_come_64 : ex cal k_C_come 64 (aQ r :: ls) (st) h = ex cal k_C_come 65 (aQ r :: ls) (aQ r :: st) h := ex_st cal (s := s_ald 0 65) rfl rfl
theorem u_C_come_65 : ex cal k_C_come 65 (ls) (st) h = ex cal k_C_come 66 (ls) (aI 2 :: st) h := e_push cal rfl
theorem u_C_come_66 (hl : Nat.ble st.length 4 = true) : ex cal k_C_come 66 (ls) (aI z0 :: aQ (some a) :: st) h = gO h a 9 (kk cal k_C_come 69 ls st (cal M_C_refused [aQ (some a), aI z0] h)) := e_callV cal (ci := 9) (as := [aI z0]) rfl (by decide) rfl (Nat.le_of_ble_eq_true hl)
theorem u_C_come_69 : ex cal k_C_come 69 (ls) ([aI v]) h = some (some (aI v), h) := e_ret1 cal rfl
theorem u_C_come_70 : ex cal k_C_come 70 (x0 :: x1 :: x2 :: aQ r :: ls) (st) h = ex cal k_C_come 71 (x0 :: x1 :: x2 :: aQ r :: ls) (aQ r :: st) h := ex_st cal (s := s_ald 3 71) rfl rfl
theorem u_C_come_71 (hl : Nat.ble st.length 4 = true) : ex cal k_C_come 71 (ls) (aQ (some a) :: st) h = gO h a 6 (kk cal k_C_come 74 ls st (cal M_Sh_holdsTexts [aQ (some a)] h)) := e_callV cal (ci := 6) (as := []) rfl (by decide) rfl (Nat.le_of_ble_eq_true hl)
theorem u_C_come_74 : ex cal k_C_come 74 (ls) (aI i :: st) h = if wr i = 0 then ex cal k_C_come 77 (ls) (st) h else ex cal k_C_come 83 (ls) (st) h := e_ifne cal rfl
theorem u_C_come_77 : ex cal k_C_come 77 (aQ r :: ls) (st) h = ex cal k_C_come 78 (aQ r :: ls) (aQ r :: st) h := ex_st cal (s := s_ald 0 78) rfl rfl
theorem u_C_come_78 : ex cal k_C_come 78 (ls) (st) h = ex cal k_C_come 79 (ls) (aI 3 :: st) h := e_push cal rfl
theorem u_C_come_79 (hl : Nat.ble st.length 4 = true) : ex cal k_C_come 79 (ls) (aI z0 :: aQ (some a) :: st) h = gO h a 9 (kk cal k_C_come 82 ls st (cal M_C_refused [aQ (some a), aI z0] h)) := e_callV cal (ci := 9) (as := [aI z0]) rfl (by decide) rfl (Nat.le_of_ble_eq_true hl)
theorem u_C_come_82 : ex cal k_C_come 82 (ls) ([aI v]) h = some (some (aI v), h) := e_ret1 cal rfl
theorem u_C_come_83 : ex cal k_C_come 83 (x0 :: x1 :: x2 :: aQ r :: ls) (st) h = ex cal k_C_come 84 (x0 :: x1 :: x2 :: aQ r :: ls) (aQ r :: st) h := ex_st cal (s := s_ald 3 84) rfl rfl
theorem u_C_come_84 : ex cal k_C_come 84 (ls) (aQ (some a) :: st) h = gO h a 6 (ex cal k_C_come 87 (ls) (gf h a 2 :: st) h) := e_gf cal rfl
theorem u_C_come_87 : ex cal k_C_come 87 (ls) (st) h = ex cal k_C_come 88 (ls) (aI 0 :: st) h := e_push cal rfl
theorem u_C_come_88 : ex cal k_C_come 88 (aQ r :: ls) (st) h = ex cal k_C_come 89 (aQ r :: ls) (aQ r :: st) h := ex_st cal (s := s_ald 0 89) rfl rfl
theorem u_C_come_89 : ex cal k_C_come 89 (ls) (aQ (some a) :: st) h = gO h a 9 (ex cal k_C_come 92 (ls) (gf h a 0 :: st) h) := e_gf cal rfl
theorem u_C_come_92 : ex cal k_C_come 92 (ls) (aQ (some a) :: st) h = gO h a 7 (ex cal k_C_come 95 (ls) (gf h a 6 :: st) h) := e_gf cal rfl
theorem u_C_come_95 : ex cal k_C_come 95 (ls) (st) h = ex cal k_C_come 96 (ls) (aI 0 :: st) h := e_push cal rfl
theorem u_C_come_96 : ex cal k_C_come 96 (x0 :: x1 :: x2 :: aQ r :: ls) (st) h = ex cal k_C_come 97 (x0 :: x1 :: x2 :: aQ r :: ls) (aQ r :: st) h := ex_st cal (s := s_ald 3 97) rfl rfl
theorem u_C_come_97 : ex cal k_C_come 97 (ls) (aQ (some a) :: st) h = gO h a 6 (ex cal k_C_come 100 (ls) (gf h a 1 :: st) h) := e_gf cal rfl
theorem u_C_come_100 (hl : Nat.ble st.length 4 = true) : ex cal k_C_come 100 (ls) (aI c :: aI j :: aQ (some b) :: aI i :: aQ (some a) :: st) h = gB (okC h a b i j c) (ex cal k_C_come 103 (ls) (st) (sa h b (cpf (ai h a) (ai h b) (wr i) (wr j) (wr c)))) := e_cpy cal rfl (Nat.le_of_ble_eq_true hl)
theorem u_C_come_103 : ex cal k_C_come 103 (aQ r :: ls) (st) h = ex cal k_C_come 104 (aQ r :: ls) (aQ r :: st) h := ex_st cal (s := s_ald 0 104) rfl rfl
theorem u_C_come_104 : ex cal k_C_come 104 (ls) (aQ (some a) :: st) h = gO h a 9 (ex cal k_C_come 107 (ls) (gf h a 0 :: st) h) := e_gf cal rfl
theorem u_C_come_107 : ex cal k_C_come 107 (x0 :: x1 :: x2 :: aQ r :: ls) (st) h = ex cal k_C_come 108 (x0 :: x1 :: x2 :: aQ r :: ls) (aQ r :: st) h := ex_st cal (s := s_ald 3 108) rfl rfl
theorem u_C_come_108 : ex cal k_C_come 108 (ls) (aQ (some a) :: st) h = gO h a 6 (ex cal k_C_come 111 (ls) (gf h a 1 :: st) h) := e_gf cal rfl
theorem u_C_come_111 : ex cal k_C_come 111 (ls) (aI v :: aQ (some a) :: st) h = gO h a 7 (ex cal k_C_come 114 (ls) (st) (pf h a 5 (aI v))) := e_pf1 rfl rfl
theorem u_C_come_114 : ex cal k_C_come 114 (aQ r :: ls) (st) h = ex cal k_C_come 115 (aQ r :: ls) (aQ r :: st) h := ex_st cal (s := s_ald 0 115) rfl rfl
theorem u_C_come_115 : ex cal k_C_come 115 (aQ r :: ls) (st) h = ex cal k_C_come 116 (aQ r :: ls) (aQ r :: st) h := ex_st cal (s := s_ald 0 116) rfl rfl
theorem u_C_come_116 : ex cal k_C_come 116 (ls) (aQ (some a) :: st) h = gO h a 9 (ex cal k_C_come 119 (ls) (gf h a 0 :: st) h) := e_gf cal rfl
theorem u_C_come_119 : ex cal k_C_come 119 (ls) (aQ (some a) :: st) h = gO h a 7 (ex cal k_C_come 122 (ls) (gf h a 5 :: st) h) := e_gf cal rfl
theorem u_C_come_122 (hl : Nat.ble st.length 4 = true) : ex cal k_C_come 122 (ls) (aI z0 :: aQ (some a) :: st) h = gO h a 9 (kk cal k_C_come 125 ls st (cal M_C_done [aQ (some a), aI z0] h)) := e_callV cal (ci := 9) (as := [aI z0]) rfl (by decide) rfl (Nat.le_of_ble_eq_true hl)
theorem u_C_come_125 : ex cal k_C_come 125 (ls) ([aI v]) h = some (some (aI v), h) := e_ret1 cal rfl
theorem n_C_come (d : Nat) : ev (d + 1) M_C_come [aQ (some a), aI z0, aI z1] h = ex (ev d) k_C_come 0 [aQ (some a), aI z0, aI z1, aU] [] h := rfl
theorem u_C_forge_0 : ex cal k_C_forge 0 (x0 :: x1 :: aI v :: ls) (st) h = ex cal k_C_forge 1 (x0 :: x1 :: aI v :: ls) (aI v :: st) h := ex_st cal (s := s_ild 2 1) rfl rfl
theorem u_C_forge_1 : ex cal k_C_forge 1 (ls) (st) h = ex cal k_C_forge 3 (ls) (aI (-100) :: st) h := e_push cal rfl
theorem u_C_forge_3 : ex cal k_C_forge 3 (ls) (aI j :: aI i :: st) h = if wr i < wr j then ex cal k_C_forge 24 (ls) (st) h else ex cal k_C_forge 6 (ls) (st) h := e_iclt cal rfl
theorem u_C_forge_6 : ex cal k_C_forge 6 (x0 :: x1 :: aI v :: ls) (st) h = ex cal k_C_forge 7 (x0 :: x1 :: aI v :: ls) (aI v :: st) h := ex_st cal (s := s_ild 2 7) rfl rfl
theorem u_C_forge_7 : ex cal k_C_forge 7 (ls) (st) h = ex cal k_C_forge 9 (ls) (aI 100 :: st) h := e_push cal rfl
theorem u_C_forge_9 : ex cal k_C_forge 9 (ls) (aI j :: aI i :: st) h = if wr j < wr i then ex cal k_C_forge 24 (ls) (st) h else ex cal k_C_forge 12 (ls) (st) h := e_icgt cal rfl
theorem u_C_forge_12 : ex cal k_C_forge 12 (x0 :: x1 :: x2 :: aI v :: ls) (st) h = ex cal k_C_forge 13 (x0 :: x1 :: x2 :: aI v :: ls) (aI v :: st) h := ex_st cal (s := s_ild 3 13) rfl rfl
theorem u_C_forge_13 : ex cal k_C_forge 13 (ls) (st) h = ex cal k_C_forge 15 (ls) (aI (-100) :: st) h := e_push cal rfl
theorem u_C_forge_15 : ex cal k_C_forge 15 (ls) (aI j :: aI i :: st) h = if wr i < wr j then ex cal k_C_forge 24 (ls) (st) h else ex cal k_C_forge 18 (ls) (st) h := e_iclt cal rfl
theorem u_C_forge_18 : ex cal k_C_forge 18 (x0 :: x1 :: x2 :: aI v :: ls) (st) h = ex cal k_C_forge 19 (x0 :: x1 :: x2 :: aI v :: ls) (aI v :: st) h := ex_st cal (s := s_ild 3 19) rfl rfl
theorem u_C_forge_19 : ex cal k_C_forge 19 (ls) (st) h = ex cal k_C_forge 21 (ls) (aI 100 :: st) h := e_push cal rfl
theorem u_C_forge_21 : ex cal k_C_forge 21 (ls) (aI j :: aI i :: st) h = if wr j < wr i then ex cal k_C_forge 24 (ls) (st) h else ex cal k_C_forge 30 (ls) (st) h := e_icle cal rfl
theorem u_C_forge_24 : ex cal k_C_forge 24 (aQ r :: ls) (st) h = ex cal k_C_forge 25 (aQ r :: ls) (aQ r :: st) h := ex_st cal (s := s_ald 0 25) rfl rfl
theorem u_C_forge_25 : ex cal k_C_forge 25 (ls) (st) h = ex cal k_C_forge 26 (ls) (aI 1 :: st) h := e_push cal rfl
theorem u_C_forge_26 (hl : Nat.ble st.length 4 = true) : ex cal k_C_forge 26 (ls) (aI z0 :: aQ (some a) :: st) h = gO h a 9 (kk cal k_C_forge 29 ls st (cal M_C_refused [aQ (some a), aI z0] h)) := e_callV cal (ci := 9) (as := [aI z0]) rfl (by decide) rfl (Nat.le_of_ble_eq_true hl)
theorem u_C_forge_29 : ex cal k_C_forge 29 (ls) ([aI v]) h = some (some (aI v), h) := e_ret1 cal rfl
theorem u_C_forge_30 : ex cal k_C_forge 30 (x0 :: aI v :: ls) (st) h = ex cal k_C_forge 31 (x0 :: aI v :: ls) (aI v :: st) h := ex_st cal (s := s_ild 1 31) rfl rfl
theorem u_C_forge_31 : ex cal k_C_forge 31 (ls) (aI i :: st) h = ex cal k_C_forge (swt [(0, 72), (1, 96), (2, 115), (3, 130), (4, 145), (5, 163), (6, 186)] 209 (wr i)) ls st h := e_sw cal rfl
theorem u_C_forge_72 : ex cal k_C_forge 72 (aQ r :: ls) (st) h = ex cal k_C_forge 73 (aQ r :: ls) (aQ r :: st) h := ex_st cal (s := s_ald 0 73) rfl rfl
theorem u_C_forge_73 : ex cal k_C_forge 73 (aQ r :: ls) (st) h = ex cal k_C_forge 74 (aQ r :: ls) (aQ r :: st) h := ex_st cal (s := s_ald 0 74) rfl rfl
theorem u_C_forge_74 : ex cal k_C_forge 74 (ls) (aQ (some a) :: st) h = gO h a 9 (ex cal k_C_forge 77 (ls) (gf h a 0 :: st) h) := e_gf cal rfl
theorem u_C_forge_77 : ex cal k_C_forge 77 (x0 :: x1 :: x2 :: aI v :: ls) (st) h = ex cal k_C_forge 78 (x0 :: x1 :: x2 :: aI v :: ls) (aI v :: st) h := ex_st cal (s := s_ild 3 78) rfl rfl
theorem u_C_forge_78 : ex cal k_C_forge 78 (ls) (st) h = ex cal k_C_forge 80 (ls) (aI 60 :: st) h := e_push cal rfl
theorem u_C_forge_80 (hl : Nat.ble st.length 4 = true) : ex cal k_C_forge 80 (ls) (aI z1 :: aI z0 :: st) h = kk cal k_C_forge 83 ls st (cal M_J_floorMod [aI z0, aI z1] h) := e_call cal (as := [aI z1, aI z0]) rfl rfl (Nat.le_of_ble_eq_true hl)
theorem u_C_forge_83 (hl : Nat.ble st.length 4 = true) : ex cal k_C_forge 83 (ls) (aI z0 :: aQ (some a) :: st) h = gO h a 7 (kk cal k_C_forge 86 ls st (cal M_St_changeOf [aQ (some a), aI z0] h)) := e_callV cal (ci := 7) (as := [aI z0]) rfl (by decide) rfl (Nat.le_of_ble_eq_true hl)
theorem u_C_forge_86 : ex cal k_C_forge 86 (x0 :: x1 :: aI v :: ls) (st) h = ex cal k_C_forge 87 (x0 :: x1 :: aI v :: ls) (aI v :: st) h := ex_st cal (s := s_ild 2 87) rfl rfl
theorem u_C_forge_87 : ex cal k_C_forge 87 (ls) (st) h = ex cal k_C_forge 89 (ls) (aI 6 :: st) h := e_push cal rfl
theorem u_C_forge_89 (hl : Nat.ble st.length 4 = true) : ex cal k_C_forge 89 (ls) (aI z1 :: aI z0 :: st) h = kk cal k_C_forge 92 ls st (cal M_J_floorMod [aI z0, aI z1] h) := e_call cal (as := [aI z1, aI z0]) rfl rfl (Nat.le_of_ble_eq_true hl)
theorem u_C_forge_92 (hl : Nat.ble st.length 4 = true) : ex cal k_C_forge 92 (ls) (aI z1 :: aQ r0 :: aQ (some a) :: st) h = gO h a 9 (kk cal k_C_forge 95 ls st (cal M_C_takeForKind [aQ (some a), aQ r0, aI z1] h)) := e_callV cal (ci := 9) (as := [aI z1, aQ r0]) rfl (by decide) rfl (Nat.le_of_ble_eq_true hl)
theorem u_C_forge_95 : ex cal k_C_forge 95 (ls) ([aI v]) h = some (some (aI v), h) := e_ret1 cal rfl
theorem u_C_forge_96 : ex cal k_C_forge 96 (x0 :: x1 :: aI v :: ls) (st) h = ex cal k_C_forge 97 (x0 :: x1 :: aI v :: ls) (aI v :: st) h := ex_st cal (s := s_ild 2 97) rfl rfl
theorem u_C_forge_97 : ex cal k_C_forge 97 (ls) (aI i :: st) h = if wr i < 0 then ex cal k_C_forge 100 (ls) (st) h else ex cal k_C_forge 109 (ls) (st) h := e_ifge cal rfl
theorem u_C_forge_100 : ex cal k_C_forge 100 (aQ r :: ls) (st) h = ex cal k_C_forge 101 (aQ r :: ls) (aQ r :: st) h := ex_st cal (s := s_ald 0 101) rfl rfl
theorem u_C_forge_101 : ex cal k_C_forge 101 (ls) (st) h = ex cal k_C_forge 103 (ls) (aI 13 :: st) h := e_push cal rfl
theorem u_C_forge_103 (hl : Nat.ble st.length 4 = true) : ex cal k_C_forge 103 (ls) (aI z0 :: aQ (some a) :: st) h = gO h a 9 (kk cal k_C_forge 106 ls st (cal M_C_refused [aQ (some a), aI z0] h)) := e_callV cal (ci := 9) (as := [aI z0]) rfl (by decide) rfl (Nat.le_of_ble_eq_true hl)
theorem u_C_forge_106 : ex cal k_C_forge 106 (ls) (st) h = ex cal k_C_forge 114 (ls) (st) h := ex_st cal (s := s_go 114) rfl rfl
theorem u_C_forge_109 : ex cal k_C_forge 109 (aQ r :: ls) (st) h = ex cal k_C_forge 110 (aQ r :: ls) (aQ r :: st) h := ex_st cal (s := s_ald 0 110) rfl rfl
theorem u_C_forge_110 : ex cal k_C_forge 110 (x0 :: x1 :: aI v :: ls) (st) h = ex cal k_C_forge 111 (x0 :: x1 :: aI v :: ls) (aI v :: st) h := ex_st cal (s := s_ild 2 111) rfl rfl
theorem u_C_forge_111 (hl : Nat.ble st.length 4 = true) : ex cal k_C_forge 111 (ls) (aI z0 :: aQ (some a) :: st) h = gO h a 9 (kk cal k_C_forge 114 ls st (cal M_C_done [aQ (some a), aI z0] h)) := e_callV cal (ci := 9) (as := [aI z0]) rfl (by decide) rfl (Nat.le_of_ble_eq_true hl)
theorem u_C_forge_114 : ex cal k_C_forge 114 (ls) ([aI v]) h = some (some (aI v), h) := e_ret1 cal rfl
theorem u_C_forge_115 : ex cal k_C_forge 115 (aQ r :: ls) (st) h = ex cal k_C_forge 116 (aQ r :: ls) (aQ r :: st) h := ex_st cal (s := s_ald 0 116) rfl rfl
theorem u_C_forge_116 : ex cal k_C_forge 116 (aQ r :: ls) (st) h = ex cal k_C_forge 117 (aQ r :: ls) (aQ r :: st) h := ex_st cal (s := s_ald 0 117) rfl rfl
theorem u_C_forge_117 : ex cal k_C_forge 117 (x0 :: x1 :: x2 :: aI v :: ls) (st) h = ex cal k_C_forge 118 (x0 :: x1 :: x2 :: aI v :: ls) (aI v :: st) h := ex_st cal (s := s_ild 3 118) rfl rfl
theorem u_C_forge_118 : ex cal k_C_forge 118 (ls) (st) h = ex cal k_C_forge 119 (ls) (aI 4 :: st) h := e_push cal rfl
theorem u_C_forge_119 (hl : Nat.ble st.length 4 = true) : ex cal k_C_forge 119 (ls) (aI z1 :: aI z0 :: st) h = kk cal k_C_forge 122 ls st (cal M_J_floorMod [aI z0, aI z1] h) := e_call cal (as := [aI z1, aI z0]) rfl rfl (Nat.le_of_ble_eq_true hl)
theorem u_C_forge_122 (hl : Nat.ble st.length 4 = true) : ex cal k_C_forge 122 (ls) (aI z0 :: aQ (some a) :: st) h = gO h a 9 (kk cal k_C_forge 125 ls st (cal M_C_sheetOf [aQ (some a), aI z0] h)) := e_callV cal (ci := 9) (as := [aI z0]) rfl (by decide) rfl (Nat.le_of_ble_eq_true hl)
theorem u_C_forge_125 : ex cal k_C_forge 125 (x0 :: x1 :: aI v :: ls) (st) h = ex cal k_C_forge 126 (x0 :: x1 :: aI v :: ls) (aI v :: st) h := ex_st cal (s := s_ild 2 126) rfl rfl
theorem u_C_forge_126 (hl : Nat.ble st.length 4 = true) : ex cal k_C_forge 126 (ls) (aI z1 :: aQ r0 :: aQ (some a) :: st) h = gO h a 9 (kk cal k_C_forge 129 ls st (cal M_C_takeNumber [aQ (some a), aQ r0, aI z1] h)) := e_callV cal (ci := 9) (as := [aI z1, aQ r0]) rfl (by decide) rfl (Nat.le_of_ble_eq_true hl)
theorem u_C_forge_129 : ex cal k_C_forge 129 (ls) ([aI v]) h = some (some (aI v), h) := e_ret1 cal rfl
theorem u_C_forge_130 : ex cal k_C_forge 130 (aQ r :: ls) (st) h = ex cal k_C_forge 131 (aQ r :: ls) (aQ r :: st) h := ex_st cal (s := s_ald 0 131) rfl rfl
theorem u_C_forge_131 : ex cal k_C_forge 131 (aQ r :: ls) (st) h = ex cal k_C_forge 132 (aQ r :: ls) (aQ r :: st) h := ex_st cal (s := s_ald 0 132) rfl rfl
theorem u_C_forge_132 : ex cal k_C_forge 132 (x0 :: x1 :: x2 :: aI v :: ls) (st) h = ex cal k_C_forge 133 (x0 :: x1 :: x2 :: aI v :: ls) (aI v :: st) h := ex_st cal (s := s_ild 3 133) rfl rfl
theorem u_C_forge_133 : ex cal k_C_forge 133 (ls) (st) h = ex cal k_C_forge 134 (ls) (aI 4 :: st) h := e_push cal rfl
theorem u_C_forge_134 (hl : Nat.ble st.length 4 = true) : ex cal k_C_forge 134 (ls) (aI z1 :: aI z0 :: st) h = kk cal k_C_forge 137 ls st (cal M_J_floorMod [aI z0, aI z1] h) := e_call cal (as := [aI z1, aI z0]) rfl rfl (Nat.le_of_ble_eq_true hl)
theorem u_C_forge_137 (hl : Nat.ble st.length 4 = true) : ex cal k_C_forge 137 (ls) (aI z0 :: aQ (some a) :: st) h = gO h a 9 (kk cal k_C_forge 140 ls st (cal M_C_sheetOf [aQ (some a), aI z0] h)) := e_callV cal (ci := 9) (as := [aI z0]) rfl (by decide) rfl (Nat.le_of_ble_eq_true hl)
theorem u_C_forge_140 : ex cal k_C_forge 140 (x0 :: x1 :: aI v :: ls) (st) h = ex cal k_C_forge 141 (x0 :: x1 :: aI v :: ls) (aI v :: st) h := ex_st cal (s := s_ild 2 141) rfl rfl
theorem u_C_forge_141 (hl : Nat.ble st.length 4 = true) : ex cal k_C_forge 141 (ls) (aI z1 :: aQ r0 :: aQ (some a) :: st) h = gO h a 9 (kk cal k_C_forge 144 ls st (cal M_C_copyNumbers [aQ (some a), aQ r0, aI z1] h)) := e_callV cal (ci := 9) (as := [aI z1, aQ r0]) rfl (by decide) rfl (Nat.le_of_ble_eq_true hl)
theorem u_C_forge_144 : ex cal k_C_forge 144 (ls) ([aI v]) h = some (some (aI v), h) := e_ret1 cal rfl
theorem u_C_forge_145 : ex cal k_C_forge 145 (aQ r :: ls) (st) h = ex cal k_C_forge 146 (aQ r :: ls) (aQ r :: st) h := ex_st cal (s := s_ald 0 146) rfl rfl
theorem u_C_forge_146 : ex cal k_C_forge 146 (aQ r :: ls) (st) h = ex cal k_C_forge 147 (aQ r :: ls) (aQ r :: st) h := ex_st cal (s := s_ald 0 147) rfl rfl
theorem u_C_forge_147 : ex cal k_C_forge 147 (ls) (aQ (some a) :: st) h = gO h a 9 (ex cal k_C_forge 150 (ls) (gf h a 0 :: st) h) := e_gf cal rfl
theorem u_C_forge_150 : ex cal k_C_forge 150 (x0 :: x1 :: x2 :: aI v :: ls) (st) h = ex cal k_C_forge 151 (x0 :: x1 :: x2 :: aI v :: ls) (aI v :: st) h := ex_st cal (s := s_ild 3 151) rfl rfl
theorem u_C_forge_151 : ex cal k_C_forge 151 (ls) (st) h = ex cal k_C_forge 153 (ls) (aI 60 :: st) h := e_push cal rfl
theorem u_C_forge_153 (hl : Nat.ble st.length 4 = true) : ex cal k_C_forge 153 (ls) (aI z1 :: aI z0 :: st) h = kk cal k_C_forge 156 ls st (cal M_J_floorMod [aI z0, aI z1] h) := e_call cal (as := [aI z1, aI z0]) rfl rfl (Nat.le_of_ble_eq_true hl)
theorem u_C_forge_156 (hl : Nat.ble st.length 4 = true) : ex cal k_C_forge 156 (ls) (aI z0 :: aQ (some a) :: st) h = gO h a 7 (kk cal k_C_forge 159 ls st (cal M_St_changeOf [aQ (some a), aI z0] h)) := e_callV cal (ci := 7) (as := [aI z0]) rfl (by decide) rfl (Nat.le_of_ble_eq_true hl)
theorem u_C_forge_159 (hl : Nat.ble st.length 4 = true) : ex cal k_C_forge 159 (ls) (aQ r0 :: aQ (some a) :: st) h = gO h a 9 (kk cal k_C_forge 162 ls st (cal M_C_putAmongFormed [aQ (some a), aQ r0] h)) := e_callV cal (ci := 9) (as := [aQ r0]) rfl (by decide) rfl (Nat.le_of_ble_eq_true hl)
theorem u_C_forge_162 : ex cal k_C_forge 162 (ls) ([aI v]) h = some (some (aI v), h) := e_ret1 cal rfl
theorem u_C_forge_163 : ex cal k_C_forge 163 (x0 :: x1 :: aI v :: ls) (st) h = ex cal k_C_forge 164 (x0 :: x1 :: aI v :: ls) (aI v :: st) h := ex_st cal (s := s_ild 2 164) rfl rfl
theorem u_C_forge_164 : ex cal k_C_forge 164 (ls) (aI i :: st) h = if wr i = 0 then ex cal k_C_forge 167 (ls) (st) h else ex cal k_C_forge 176 (ls) (st) h := e_ifne cal rfl
theorem u_C_forge_167 : ex cal k_C_forge 167 (aQ r :: ls) (st) h = ex cal k_C_forge 168 (aQ r :: ls) (aQ r :: st) h := ex_st cal (s := s_ald 0 168) rfl rfl
theorem u_C_forge_168 : ex cal k_C_forge 168 (ls) (st) h = ex cal k_C_forge 170 (ls) (aI 15 :: st) h := e_push cal rfl
theorem u_C_forge_170 (hl : Nat.ble st.length 4 = true) : ex cal k_C_forge 170 (ls) (aI z0 :: aQ (some a) :: st) h = gO h a 9 (kk cal k_C_forge 173 ls st (cal M_C_refused [aQ (some a), aI z0] h)) := e_callV cal (ci := 9) (as := [aI z0]) rfl (by decide) rfl (Nat.le_of_ble_eq_true hl)
theorem u_C_forge_173 : ex cal k_C_forge 173 (ls) (st) h = ex cal k_C_forge 185 (ls) (st) h := ex_st cal (s := s_go 185) rfl rfl
theorem u_C_forge_176 : ex cal k_C_forge 176 (aQ r :: ls) (st) h = ex cal k_C_forge 177 (aQ r :: ls) (aQ r :: st) h := ex_st cal (s := s_ald 0 177) rfl rfl
theorem u_C_forge_177 : ex cal k_C_forge 177 (ls) (st) h = ex cal k_C_forge 180 (ls) (aI 1000 :: st) h := e_push cal rfl
theorem u_C_forge_180 : ex cal k_C_forge 180 (x0 :: x1 :: aI v :: ls) (st) h = ex cal k_C_forge 181 (x0 :: x1 :: aI v :: ls) (aI v :: st) h := ex_st cal (s := s_ild 2 181) rfl rfl
theorem u_C_forge_181 (h0 : j ≠ 0) (h1 : -2147483648 ≤ j) (h2 : j < 2147483648) : ex cal k_C_forge 181 (ls) (aI j :: aI i :: st) h = ex cal k_C_forge 182 (ls) (aI ((wr i).tdiv j) :: st) h := e_div2 rfl h0 h1 h2
theorem u_C_forge_182 (hl : Nat.ble st.length 4 = true) : ex cal k_C_forge 182 (ls) (aI z0 :: aQ (some a) :: st) h = gO h a 9 (kk cal k_C_forge 185 ls st (cal M_C_done [aQ (some a), aI z0] h)) := e_callV cal (ci := 9) (as := [aI z0]) rfl (by decide) rfl (Nat.le_of_ble_eq_true hl)
theorem u_C_forge_185 : ex cal k_C_forge 185 (ls) ([aI v]) h = some (some (aI v), h) := e_ret1 cal rfl
theorem u_C_forge_186 : ex cal k_C_forge 186 (x0 :: x1 :: aI v :: ls) (st) h = ex cal k_C_forge 187 (x0 :: x1 :: aI v :: ls) (aI v :: st) h := ex_st cal (s := s_ild 2 187) rfl rfl
theorem u_C_forge_187 : ex cal k_C_forge 187 (ls) (st) h = ex cal k_C_forge 188 (ls) (aI 2 :: st) h := e_push cal rfl
theorem u_C_forge_188 (hl : Nat.ble st.length 4 = true) : ex cal k_C_forge 188 (ls) (aI z1 :: aI z0 :: st) h = kk cal k_C_forge 191 ls st (cal M_J_floorMod [aI z0, aI z1] h) := e_call cal (as := [aI z1, aI z0]) rfl rfl (Nat.le_of_ble_eq_true hl)
theorem u_C_forge_191 : ex cal k_C_forge 191 (ls) (aI i :: st) h = if wr i = 0 then ex cal k_C_forge 194 (ls) (st) h else ex cal k_C_forge 203 (ls) (st) h := e_ifne cal rfl
theorem u_C_forge_194 : ex cal k_C_forge 194 (aQ r :: ls) (st) h = ex cal k_C_forge 195 (aQ r :: ls) (aQ r :: st) h := ex_st cal (s := s_ald 0 195) rfl rfl
theorem u_C_forge_195 : ex cal k_C_forge 195 (ls) (st) h = ex cal k_C_forge 197 (ls) (aI 10 :: st) h := e_push cal rfl
theorem u_C_forge_197 (hl : Nat.ble st.length 4 = true) : ex cal k_C_forge 197 (ls) (aI z0 :: aQ (some a) :: st) h = gO h a 9 (kk cal k_C_forge 200 ls st (cal M_C_refused [aQ (some a), aI z0] h)) := e_callV cal (ci := 9) (as := [aI z0]) rfl (by decide) rfl (Nat.le_of_ble_eq_true hl)
theorem u_C_forge_200 : ex cal k_C_forge 200 (ls) (st) h = ex cal k_C_forge 208 (ls) (st) h := ex_st cal (s := s_go 208) rfl rfl
theorem u_C_forge_203 : ex cal k_C_forge 203 (aQ r :: ls) (st) h = ex cal k_C_forge 204 (aQ r :: ls) (aQ r :: st) h := ex_st cal (s := s_ald 0 204) rfl rfl
theorem u_C_forge_204 : ex cal k_C_forge 204 (ls) (st) h = ex cal k_C_forge 205 (ls) (aI 1 :: st) h := e_push cal rfl
theorem u_C_forge_205 (hl : Nat.ble st.length 4 = true) : ex cal k_C_forge 205 (ls) (aI z0 :: aQ (some a) :: st) h = gO h a 9 (kk cal k_C_forge 208 ls st (cal M_C_done [aQ (some a), aI z0] h)) := e_callV cal (ci := 9) (as := [aI z0]) rfl (by decide) rfl (Nat.le_of_ble_eq_true hl)
theorem u_C_forge_208 : ex cal k_C_forge 208 (ls) ([aI v]) h = some (some (aI v), h) := e_ret1 cal rfl
theorem u_C_forge_209 : ex cal k_C_forge 209 (aQ r :: ls) (st) h = ex cal k_C_forge 210 (aQ r :: ls) (aQ r :: st) h := ex_st cal (s := s_ald 0 210) rfl rfl
theorem u_C_forge_210 : ex cal k_C_forge 210 (ls) (st) h = ex cal k_C_forge 211 (ls) (aI 1 :: st) h := e_push cal rfl
theorem u_C_forge_211 (hl : Nat.ble st.length 4 = true) : ex cal k_C_forge 211 (ls) (aI z0 :: aQ (some a) :: st) h = gO h a 9 (kk cal k_C_forge 214 ls st (cal M_C_refused [aQ (some a), aI z0] h)) := e_callV cal (ci := 9) (as := [aI z0]) rfl (by decide) rfl (Nat.le_of_ble_eq_true hl)
theorem u_C_forge_214 : ex cal k_C_forge 214 (ls) ([aI v]) h = some (some (aI v), h) := e_ret1 cal rfl
theorem n_C_forge (d : Nat) : ev (d + 1) M_C_forge [aQ (some a), aI z0, aI z1, aI z2] h = ex (ev d) k_C_forge 0 [aQ (some a), aI z0, aI z1, aI z2] [] h := rfl
theorem u_C_status_0 : ex cal k_C_status 0 (aQ r :: ls) (st) h = ex cal k_C_status 1 (aQ r :: ls) (aQ r :: st) h := ex_st cal (s := s_ald 0 1) rfl rfl
theorem u_C_status_1 : ex cal k_C_status 1 (ls) (aQ (some a) :: st) h = gO h a 9 (ex cal k_C_status 4 (ls) (gf h a 9 :: st) h) := e_gf cal rfl
theorem u_C_status_4 : ex cal k_C_status 4 (ls) ([aI v]) h = some (some (aI v), h) := e_ret1 cal rfl
theorem n_C_status (d : Nat) : ev (d + 1) M_C_status [aQ (some a)] h = ex (ev d) k_C_status 0 [aQ (some a)] [] h := rfl
theorem u_C_done_0 : ex cal k_C_done 0 (aQ r :: ls) (st) h = ex cal k_C_done 1 (aQ r :: ls) (aQ r :: st) h := ex_st cal (s := s_ald 0 1) rfl rfl
theorem u_C_done_1 : ex cal k_C_done 1 (ls) (st) h = ex cal k_C_done 2 (ls) (aI 0 :: st) h := e_push cal rfl
theorem u_C_done_2 : ex cal k_C_done 2 (ls) (aI v :: aQ (some a) :: st) h = gO h a 9 (ex cal k_C_done 5 (ls) (st) (pf h a 9 (aI v))) := e_pf1 rfl rfl
theorem u_C_done_5 : ex cal k_C_done 5 (x0 :: aI v :: ls) (st) h = ex cal k_C_done 6 (x0 :: aI v :: ls) (aI v :: st) h := ex_st cal (s := s_ild 1 6) rfl rfl
theorem u_C_done_6 : ex cal k_C_done 6 (ls) ([aI v]) h = some (some (aI v), h) := e_ret1 cal rfl
theorem n_C_done (d : Nat) : ev (d + 1) M_C_done [aQ (some a), aI z0] h = ex (ev d) k_C_done 0 [aQ (some a), aI z0] [] h := rfl
theorem u_C_refused_0 : ex cal k_C_refused 0 (aQ r :: ls) (st) h = ex cal k_C_refused 1 (aQ r :: ls) (aQ r :: st) h := ex_st cal (s := s_ald 0 1) rfl rfl
theorem u_C_refused_1 : ex cal k_C_refused 1 (x0 :: aI v :: ls) (st) h = ex cal k_C_refused 2 (x0 :: aI v :: ls) (aI v :: st) h := ex_st cal (s := s_ild 1 2) rfl rfl
theorem u_C_refused_2 : ex cal k_C_refused 2 (ls) (aI v :: aQ (some a) :: st) h = gO h a 9 (ex cal k_C_refused 5 (ls) (st) (pf h a 9 (aI v))) := e_pf1 rfl rfl
theorem u_C_refused_5 : ex cal k_C_refused 5 (ls) (st) h = ex cal k_C_refused 6 (ls) (aI (-1) :: st) h := e_push cal rfl
theorem u_C_refused_6 : ex cal k_C_refused 6 (ls) ([aI v]) h = some (some (aI v), h) := e_ret1 cal rfl
theorem n_C_refused (d : Nat) : ev (d + 1) M_C_refused [aQ (some a), aI z0] h = ex (ev d) k_C_refused 0 [aQ (some a), aI z0] [] h := rfl
theorem u_C_sheetOf_0 : ex cal k_C_sheetOf 0 (x0 :: aI v :: ls) (st) h = ex cal k_C_sheetOf 1 (x0 :: aI v :: ls) (aI v :: st) h := ex_st cal (s := s_ild 1 1) rfl rfl
theorem u_C_sheetOf_1 : ex cal k_C_sheetOf 1 (ls) (aI i :: st) h = if wr i < 0 then ex cal k_C_sheetOf 18 (ls) (st) h else ex cal k_C_sheetOf 4 (ls) (st) h := e_iflt cal rfl
theorem u_C_sheetOf_4 : ex cal k_C_sheetOf 4 (x0 :: aI v :: ls) (st) h = ex cal k_C_sheetOf 5 (x0 :: aI v :: ls) (aI v :: st) h := ex_st cal (s := s_ild 1 5) rfl rfl
theorem u_C_sheetOf_5 : ex cal k_C_sheetOf 5 (ls) (st) h = ex cal k_C_sheetOf 6 (ls) (aI 4 :: st) h := e_push cal rfl
theorem u_C_sheetOf_6 : ex cal k_C_sheetOf 6 (ls) (aI j :: aI i :: st) h = if wr i < wr j then ex cal k_C_sheetOf 9 (ls) (st) h else ex cal k_C_sheetOf 18 (ls) (st) h := e_icge cal rfl
theorem u_C_sheetOf_9 : ex cal k_C_sheetOf 9 (aQ r :: ls) (st) h = ex cal k_C_sheetOf 10 (aQ r :: ls) (aQ r :: st) h := ex_st cal (s := s_ald 0 10) rfl rfl
theorem u_C_sheetOf_10 : ex cal k_C_sheetOf 10 (ls) (aQ (some a) :: st) h = gO h a 9 (ex cal k_C_sheetOf 13 (ls) (gf h a 6 :: st) h) := e_gf cal rfl
theorem u_C_sheetOf_13 : ex cal k_C_sheetOf 13 (x0 :: aI v :: ls) (st) h = ex cal k_C_sheetOf 14 (x0 :: aI v :: ls) (aI v :: st) h := ex_st cal (s := s_ild 1 14) rfl rfl
theorem u_C_sheetOf_14 : ex cal k_C_sheetOf 14 (ls) (aI i :: aQ (some a) :: st) h = gR h a 3 i (ex cal k_C_sheetOf 15 (ls) (aQ (ra h a (wr i)) :: st) h) := e_ra cal rfl
theorem u_C_sheetOf_15 : ex cal k_C_sheetOf 15 (ls) (st) h = ex cal k_C_sheetOf 19 (ls) (st) h := ex_st cal (s := s_go 19) rfl rfl
theorem u_C_sheetOf_18 : ex cal k_C_sheetOf 18 (ls) (st) h = ex cal k_C_sheetOf 19 (ls) (aQ none :: st) h := e_push cal rfl
theorem u_C_sheetOf_19 : ex cal k_C_sheetOf 19 (ls) ([aQ r]) h = some (some (aQ r), h) := e_ret3 cal rfl
theorem n_C_sheetOf (d : Nat) : ev (d + 1) M_C_sheetOf [aQ (some a), aI z0] h = ex (ev d) k_C_sheetOf 0 [aQ (some a), aI z0] [] h := rfl
theorem u_C_countLone_0 : ex cal k_C_countLone 0 (aQ r :: ls) (st) h = ex cal k_C_countLone 1 (aQ r :: ls) (aQ r :: st) h := ex_st cal (s := s_ald 0 1) rfl rfl
theorem u_C_countLone_1 : ex cal k_C_countLone 1 (ls) (aQ (some a) :: st) h = gO h a 9 (ex cal k_C_countLone 4 (ls) (gf h a 3 :: st) h) := e_gf cal rfl
theorem u_C_countLone_4 : ex cal k_C_countLone 4 (aQ r :: ls) (st) h = ex cal k_C_countLone 5 (aQ r :: ls) (aQ r :: st) h := ex_st cal (s := s_ald 0 5) rfl rfl
theorem u_C_countLone_5 : ex cal k_C_countLone 5 (ls) (aQ (some a) :: st) h = gO h a 9 (ex cal k_C_countLone 8 (ls) (gf h a 0 :: st) h) := e_gf cal rfl
theorem u_C_countLone_8 (hl : Nat.ble st.length 4 = true) : ex cal k_C_countLone 8 (ls) (aQ r0 :: aQ (some a) :: st) h = gO h a 8 (kk cal k_C_countLone 11 ls st (cal M_Te_gather [aQ (some a), aQ r0] h)) := e_callV cal (ci := 8) (as := [aQ r0]) rfl (by decide) rfl (Nat.le_of_ble_eq_true hl)
theorem u_C_countLone_11 : ex cal k_C_countLone 11 (ls) (st) h = ex cal k_C_countLone 12 (ls) (aI 0 :: st) h := e_push cal rfl
theorem u_C_countLone_12 (hx : aNl x0 = true) : ex cal k_C_countLone 12 (x0 :: y :: ls) (aI v :: st) h = ex cal k_C_countLone 13 (x0 :: aI v :: ls) (st) h := e_ist (ls := x0 :: y :: ls) (k := 1) rfl hx (by simp only [List.length_cons]; omega)
theorem u_C_countLone_13 : ex cal k_C_countLone 13 (aQ r :: ls) (st) h = ex cal k_C_countLone 14 (aQ r :: ls) (aQ r :: st) h := ex_st cal (s := s_ald 0 14) rfl rfl
theorem u_C_countLone_14 : ex cal k_C_countLone 14 (ls) (aQ (some a) :: st) h = gO h a 9 (ex cal k_C_countLone 17 (ls) (gf h a 3 :: st) h) := e_gf cal rfl
theorem u_C_countLone_17 : ex cal k_C_countLone 17 (ls) (st) h = ex cal k_C_countLone 18 (ls) (aI 0 :: st) h := e_push cal rfl
theorem u_C_countLone_18 (hl : Nat.ble st.length 4 = true) : ex cal k_C_countLone 18 (ls) (aI z0 :: aQ (some a) :: st) h = gO h a 8 (kk cal k_C_countLone 21 ls st (cal M_Te_loneAfter [aQ (some a), aI z0] h)) := e_callV cal (ci := 8) (as := [aI z0]) rfl (by decide) rfl (Nat.le_of_ble_eq_true hl)
theorem u_C_countLone_21 (hx : aNl x1 = true) : ex cal k_C_countLone 21 (x0 :: x1 :: y :: ls) (aI v :: st) h = ex cal k_C_countLone 22 (x0 :: x1 :: aI v :: ls) (st) h := e_ist (ls := x0 :: x1 :: y :: ls) (k := 2) rfl hx (by simp only [List.length_cons]; omega)
theorem u_C_countLone_22 : ex cal k_C_countLone 22 (x0 :: aI v :: ls) (st) h = ex cal k_C_countLone 23 (x0 :: aI v :: ls) (aI v :: st) h := ex_st cal (s := s_ild 1 23) rfl rfl
theorem u_C_countLone_23 : ex cal k_C_countLone 23 (ls) (st) h = ex cal k_C_countLone 25 (ls) (aI 6 :: st) h := e_push cal rfl
theorem u_C_countLone_25 : ex cal k_C_countLone 25 (ls) (aI j :: aI i :: st) h = if wr i < wr j then ex cal k_C_countLone 28 (ls) (st) h else ex cal k_C_countLone 47 (ls) (st) h := e_icge cal rfl
theorem u_C_countLone_28 : ex cal k_C_countLone 28 (x0 :: x1 :: aI v :: ls) (st) h = ex cal k_C_countLone 29 (x0 :: x1 :: aI v :: ls) (aI v :: st) h := ex_st cal (s := s_ild 2 29) rfl rfl
theorem u_C_countLone_29 : ex cal k_C_countLone 29 (ls) (aI i :: st) h = if wr i = 0 then ex cal k_C_countLone 47 (ls) (st) h else ex cal k_C_countLone 32 (ls) (st) h := e_ifeq cal rfl
theorem u_C_countLone_32 (hx : aNl x0 = true) : ex cal k_C_countLone 32 (x0 :: aI v :: ls) (st) h = ex cal k_C_countLone 35 (x0 :: aI (v + 1) :: ls) (st) h := e_inc (ls := x0 :: aI v :: ls) (k := 1) rfl rfl hx
theorem u_C_countLone_35 : ex cal k_C_countLone 35 (aQ r :: ls) (st) h = ex cal k_C_countLone 36 (aQ r :: ls) (aQ r :: st) h := ex_st cal (s := s_ald 0 36) rfl rfl
theorem u_C_countLone_36 : ex cal k_C_countLone 36 (ls) (aQ (some a) :: st) h = gO h a 9 (ex cal k_C_countLone 39 (ls) (gf h a 3 :: st) h) := e_gf cal rfl
theorem u_C_countLone_39 : ex cal k_C_countLone 39 (x0 :: x1 :: aI v :: ls) (st) h = ex cal k_C_countLone 40 (x0 :: x1 :: aI v :: ls) (aI v :: st) h := ex_st cal (s := s_ild 2 40) rfl rfl
theorem u_C_countLone_40 (hl : Nat.ble st.length 4 = true) : ex cal k_C_countLone 40 (ls) (aI z0 :: aQ (some a) :: st) h = gO h a 8 (kk cal k_C_countLone 43 ls st (cal M_Te_loneAfter [aQ (some a), aI z0] h)) := e_callV cal (ci := 8) (as := [aI z0]) rfl (by decide) rfl (Nat.le_of_ble_eq_true hl)
theorem u_C_countLone_43 (hx : aNl x1 = true) : ex cal k_C_countLone 43 (x0 :: x1 :: y :: ls) (aI v :: st) h = ex cal k_C_countLone 44 (x0 :: x1 :: aI v :: ls) (st) h := e_ist (ls := x0 :: x1 :: y :: ls) (k := 2) rfl hx (by simp only [List.length_cons]; omega)
theorem u_C_countLone_44 : ex cal k_C_countLone 44 (ls) (st) h = ex cal k_C_countLone 22 (ls) (st) h := ex_st cal (s := s_go 22) rfl rfl
theorem u_C_countLone_47 : ex cal k_C_countLone 47 (x0 :: aI v :: ls) (st) h = ex cal k_C_countLone 48 (x0 :: aI v :: ls) (aI v :: st) h := ex_st cal (s := s_ild 1 48) rfl rfl
theorem u_C_countLone_48 : ex cal k_C_countLone 48 (ls) ([aI v]) h = some (some (aI v), h) := e_ret1 cal rfl
theorem n_C_countLone (d : Nat) : ev (d + 1) M_C_countLone [aQ (some a)] h = ex (ev d) k_C_countLone 0 [aQ (some a), aU, aU] [] h := rfl
theorem u_C_takeForKind_0 : ex cal k_C_takeForKind 0 (x0 :: aQ r :: ls) (st) h = ex cal k_C_takeForKind 1 (x0 :: aQ r :: ls) (aQ r :: st) h := ex_st cal (s := s_ald 1 1) rfl rfl
theorem u_C_takeForKind_1 : ex cal k_C_takeForKind 1 (ls) (aQ r :: st) h = if r = none then ex cal k_C_takeForKind 4 (ls) (st) h else ex cal k_C_takeForKind 11 (ls) (st) h := e_nul cal rfl
theorem u_C_takeForKind_4 : ex cal k_C_takeForKind 4 (aQ r :: ls) (st) h = ex cal k_C_takeForKind 5 (aQ r :: ls) (aQ r :: st) h := ex_st cal (s := s_ald 0 5) rfl rfl
theorem u_C_takeForKind_5 : ex cal k_C_takeForKind 5 (ls) (st) h = ex cal k_C_takeForKind 7 (ls) (aI 10 :: st) h := e_push cal rfl
theorem u_C_takeForKind_7 (hl : Nat.ble st.length 4 = true) : ex cal k_C_takeForKind 7 (ls) (aI z0 :: aQ (some a) :: st) h = gO h a 9 (kk cal k_C_takeForKind 10 ls st (cal M_C_refused [aQ (some a), aI z0] h)) := e_callV cal (ci := 9) (as := [aI z0]) rfl (by decide) rfl (Nat.le_of_ble_eq_true hl)
theorem u_C_takeForKind_10 : ex cal k_C_takeForKind 10 (ls) ([aI v]) h = some (some (aI v), h) := e_ret1 cal rfl
theorem u_C_takeForKind_11 : ex cal k_C_takeForKind 11 (x0 :: aQ r :: ls) (st) h = ex cal k_C_takeForKind 12 (x0 :: aQ r :: ls) (aQ r :: st) h := ex_st cal (s := s_ald 1 12) rfl rfl
theorem u_C_takeForKind_12 : ex cal k_C_takeForKind 12 (ls) (aQ (some a) :: st) h = gO h a 1 (ex cal k_C_takeForKind 15 (ls) (gf h a 1 :: st) h) := e_gf cal rfl
theorem u_C_takeForKind_15 : ex cal k_C_takeForKind 15 (x0 :: x1 :: aI v :: ls) (st) h = ex cal k_C_takeForKind 16 (x0 :: x1 :: aI v :: ls) (aI v :: st) h := ex_st cal (s := s_ild 2 16) rfl rfl
theorem u_C_takeForKind_16 (hl : Nat.ble st.length 4 = true) : ex cal k_C_takeForKind 16 (ls) (aI z1 :: aI z0 :: st) h = kk cal k_C_takeForKind 19 ls st (cal M_C_isUnder [aI z0, aI z1] h) := e_call cal (as := [aI z1, aI z0]) rfl rfl (Nat.le_of_ble_eq_true hl)
theorem u_C_takeForKind_19 : ex cal k_C_takeForKind 19 (ls) (aI i :: st) h = if wr i = 0 then ex cal k_C_takeForKind 33 (ls) (st) h else ex cal k_C_takeForKind 22 (ls) (st) h := e_ifeq cal rfl
theorem u_C_takeForKind_22 : ex cal k_C_takeForKind 22 (aQ r :: ls) (st) h = ex cal k_C_takeForKind 23 (aQ r :: ls) (aQ r :: st) h := ex_st cal (s := s_ald 0 23) rfl rfl
theorem u_C_takeForKind_23 : ex cal k_C_takeForKind 23 (x0 :: aQ r :: ls) (st) h = ex cal k_C_takeForKind 24 (x0 :: aQ r :: ls) (aQ r :: st) h := ex_st cal (s := s_ald 1 24) rfl rfl
theorem u_C_takeForKind_24 : ex cal k_C_takeForKind 24 (ls) (aQ (some a) :: st) h = gO h a 1 (ex cal k_C_takeForKind 27 (ls) (gf h a 1 :: st) h) := e_gf cal rfl
theorem u_C_takeForKind_27 (hl : Nat.ble st.length 4 = true) : ex cal k_C_takeForKind 27 (ls) (aI z0 :: aQ (some a) :: st) h = gO h a 9 (kk cal k_C_takeForKind 30 ls st (cal M_C_done [aQ (some a), aI z0] h)) := e_callV cal (ci := 9) (as := [aI z0]) rfl (by decide) rfl (Nat.le_of_ble_eq_true hl)
theorem u_C_takeForKind_30 : ex cal k_C_takeForKind 30 (ls) (st) h = ex cal k_C_takeForKind 39 (ls) (st) h := ex_st cal (s := s_go 39) rfl rfl
theorem u_C_takeForKind_33 : ex cal k_C_takeForKind 33 (aQ r :: ls) (st) h = ex cal k_C_takeForKind 34 (aQ r :: ls) (aQ r :: st) h := ex_st cal (s := s_ald 0 34) rfl rfl
theorem u_C_takeForKind_34 : ex cal k_C_takeForKind 34 (ls) (st) h = ex cal k_C_takeForKind 36 (ls) (aI 11 :: st) h := e_push cal rfl
theorem u_C_takeForKind_36 (hl : Nat.ble st.length 4 = true) : ex cal k_C_takeForKind 36 (ls) (aI z0 :: aQ (some a) :: st) h = gO h a 9 (kk cal k_C_takeForKind 39 ls st (cal M_C_refused [aQ (some a), aI z0] h)) := e_callV cal (ci := 9) (as := [aI z0]) rfl (by decide) rfl (Nat.le_of_ble_eq_true hl)
theorem u_C_takeForKind_39 : ex cal k_C_takeForKind 39 (ls) ([aI v]) h = some (some (aI v), h) := e_ret1 cal rfl
theorem n_C_takeForKind (d : Nat) : ev (d + 1) M_C_takeForKind [aQ (some a), aQ r0, aI z1] h = ex (ev d) k_C_takeForKind 0 [aQ (some a), aQ r0, aI z1] [] h := rfl
theorem u_C_takeNumber_0 : ex cal k_C_takeNumber 0 (x0 :: aQ r :: ls) (st) h = ex cal k_C_takeNumber 1 (x0 :: aQ r :: ls) (aQ r :: st) h := ex_st cal (s := s_ald 1 1) rfl rfl
theorem u_C_takeNumber_1 : ex cal k_C_takeNumber 1 (ls) (aQ r :: st) h = if r = none then ex cal k_C_takeNumber 12 (ls) (st) h else ex cal k_C_takeNumber 4 (ls) (st) h := e_nul cal rfl
theorem u_C_takeNumber_4 : ex cal k_C_takeNumber 4 (x0 :: aQ r :: ls) (st) h = ex cal k_C_takeNumber 5 (x0 :: aQ r :: ls) (aQ r :: st) h := ex_st cal (s := s_ald 1 5) rfl rfl
theorem u_C_takeNumber_5 : ex cal k_C_takeNumber 5 (ls) (aQ (some a) :: st) h = gO h a 6 (ex cal k_C_takeNumber 8 (ls) (gf h a 0 :: st) h) := e_gf cal rfl
theorem u_C_takeNumber_8 : ex cal k_C_takeNumber 8 (ls) (st) h = ex cal k_C_takeNumber 9 (ls) (aI (-1) :: st) h := e_push cal rfl
theorem u_C_takeNumber_9 : ex cal k_C_takeNumber 9 (ls) (aI j :: aI i :: st) h = if wr i = wr j then ex cal k_C_takeNumber 12 (ls) (st) h else ex cal k_C_takeNumber 19 (ls) (st) h := e_icne cal rfl
theorem u_C_takeNumber_12 : ex cal k_C_takeNumber 12 (aQ r :: ls) (st) h = ex cal k_C_takeNumber 13 (aQ r :: ls) (aQ r :: st) h := ex_st cal (s := s_ald 0 13) rfl rfl
theorem u_C_takeNumber_13 : ex cal k_C_takeNumber 13 (ls) (st) h = ex cal k_C_takeNumber 15 (ls) (aI 10 :: st) h := e_push cal rfl
theorem u_C_takeNumber_15 (hl : Nat.ble st.length 4 = true) : ex cal k_C_takeNumber 15 (ls) (aI z0 :: aQ (some a) :: st) h = gO h a 9 (kk cal k_C_takeNumber 18 ls st (cal M_C_refused [aQ (some a), aI z0] h)) := e_callV cal (ci := 9) (as := [aI z0]) rfl (by decide) rfl (Nat.le_of_ble_eq_true hl)
theorem u_C_takeNumber_18 : ex cal k_C_takeNumber 18 (ls) ([aI v]) h = some (some (aI v), h) := e_ret1 cal rfl
theorem u_C_takeNumber_19 : ex cal k_C_takeNumber 19 (x0 :: aQ r :: ls) (st) h = ex cal k_C_takeNumber 20 (x0 :: aQ r :: ls) (aQ r :: st) h := ex_st cal (s := s_ald 1 20) rfl rfl
theorem u_C_takeNumber_20 : ex cal k_C_takeNumber 20 (ls) (aQ (some a) :: st) h = gO h a 6 (ex cal k_C_takeNumber 23 (ls) (gf h a 0 :: st) h) := e_gf cal rfl
theorem u_C_takeNumber_23 : ex cal k_C_takeNumber 23 (ls) (st) h = ex cal k_C_takeNumber 24 (ls) (aI 1 :: st) h := e_push cal rfl
theorem u_C_takeNumber_24 : ex cal k_C_takeNumber 24 (ls) (aI j :: aI i :: st) h = if wr i = wr j then ex cal k_C_takeNumber 34 (ls) (st) h else ex cal k_C_takeNumber 27 (ls) (st) h := e_iceq cal rfl
theorem u_C_takeNumber_27 : ex cal k_C_takeNumber 27 (aQ r :: ls) (st) h = ex cal k_C_takeNumber 28 (aQ r :: ls) (aQ r :: st) h := ex_st cal (s := s_ald 0 28) rfl rfl
theorem u_C_takeNumber_28 : ex cal k_C_takeNumber 28 (ls) (st) h = ex cal k_C_takeNumber 30 (ls) (aI 11 :: st) h := e_push cal rfl
theorem u_C_takeNumber_30 (hl : Nat.ble st.length 4 = true) : ex cal k_C_takeNumber 30 (ls) (aI z0 :: aQ (some a) :: st) h = gO h a 9 (kk cal k_C_takeNumber 33 ls st (cal M_C_refused [aQ (some a), aI z0] h)) := e_callV cal (ci := 9) (as := [aI z0]) rfl (by decide) rfl (Nat.le_of_ble_eq_true hl)
theorem u_C_takeNumber_33 : ex cal k_C_takeNumber 33 (ls) ([aI v]) h = some (some (aI v), h) := e_ret1 cal rfl
theorem u_C_takeNumber_34 : ex cal k_C_takeNumber 34 (x0 :: x1 :: aI v :: ls) (st) h = ex cal k_C_takeNumber 35 (x0 :: x1 :: aI v :: ls) (aI v :: st) h := ex_st cal (s := s_ild 2 35) rfl rfl
theorem u_C_takeNumber_35 : ex cal k_C_takeNumber 35 (ls) (aI i :: st) h = if wr i < 0 then ex cal k_C_takeNumber 46 (ls) (st) h else ex cal k_C_takeNumber 38 (ls) (st) h := e_iflt cal rfl
theorem u_C_takeNumber_38 : ex cal k_C_takeNumber 38 (x0 :: x1 :: aI v :: ls) (st) h = ex cal k_C_takeNumber 39 (x0 :: x1 :: aI v :: ls) (aI v :: st) h := ex_st cal (s := s_ild 2 39) rfl rfl
theorem u_C_takeNumber_39 : ex cal k_C_takeNumber 39 (x0 :: aQ r :: ls) (st) h = ex cal k_C_takeNumber 40 (x0 :: aQ r :: ls) (aQ r :: st) h := ex_st cal (s := s_ald 1 40) rfl rfl
theorem u_C_takeNumber_40 : ex cal k_C_takeNumber 40 (ls) (aQ (some a) :: st) h = gO h a 6 (ex cal k_C_takeNumber 43 (ls) (gf h a 1 :: st) h) := e_gf cal rfl
theorem u_C_takeNumber_43 : ex cal k_C_takeNumber 43 (ls) (aI j :: aI i :: st) h = if wr i < wr j then ex cal k_C_takeNumber 55 (ls) (st) h else ex cal k_C_takeNumber 46 (ls) (st) h := e_iclt cal rfl
theorem u_C_takeNumber_46 : ex cal k_C_takeNumber 46 (aQ r :: ls) (st) h = ex cal k_C_takeNumber 47 (aQ r :: ls) (aQ r :: st) h := ex_st cal (s := s_ald 0 47) rfl rfl
theorem u_C_takeNumber_47 : ex cal k_C_takeNumber 47 (ls) (st) h = ex cal k_C_takeNumber 49 (ls) (aI 12 :: st) h := e_push cal rfl
theorem u_C_takeNumber_49 (hl : Nat.ble st.length 4 = true) : ex cal k_C_takeNumber 49 (ls) (aI z0 :: aQ (some a) :: st) h = gO h a 9 (kk cal k_C_takeNumber 52 ls st (cal M_C_refused [aQ (some a), aI z0] h)) := e_callV cal (ci := 9) (as := [aI z0]) rfl (by decide) rfl (Nat.le_of_ble_eq_true hl)
theorem u_C_takeNumber_52 : ex cal k_C_takeNumber 52 (ls) (st) h = ex cal k_C_takeNumber 65 (ls) (st) h := ex_st cal (s := s_go 65) rfl rfl
theorem u_C_takeNumber_55 : ex cal k_C_takeNumber 55 (aQ r :: ls) (st) h = ex cal k_C_takeNumber 56 (aQ r :: ls) (aQ r :: st) h := ex_st cal (s := s_ald 0 56) rfl rfl
theorem u_C_takeNumber_56 : ex cal k_C_takeNumber 56 (x0 :: aQ r :: ls) (st) h = ex cal k_C_takeNumber 57 (x0 :: aQ r :: ls) (aQ r :: st) h := ex_st cal (s := s_ald 1 57) rfl rfl
theorem u_C_takeNumber_57 : ex cal k_C_takeNumber 57 (ls) (aQ (some a) :: st) h = gO h a 6 (ex cal k_C_takeNumber 60 (ls) (gf h a 2 :: st) h) := e_gf cal rfl
theorem u_C_takeNumber_60 : ex cal k_C_takeNumber 60 (x0 :: x1 :: aI v :: ls) (st) h = ex cal k_C_takeNumber 61 (x0 :: x1 :: aI v :: ls) (aI v :: st) h := ex_st cal (s := s_ild 2 61) rfl rfl
theorem u_C_takeNumber_61 : ex cal k_C_takeNumber 61 (ls) (aI i :: aQ (some a) :: st) h = gA h a i (ex cal k_C_takeNumber 62 (ls) (aI (ai h a (wr i)) :: st) h) := e_ia cal rfl
theorem u_C_takeNumber_62 (hl : Nat.ble st.length 4 = true) : ex cal k_C_takeNumber 62 (ls) (aI z0 :: aQ (some a) :: st) h = gO h a 9 (kk cal k_C_takeNumber 65 ls st (cal M_C_done [aQ (some a), aI z0] h)) := e_callV cal (ci := 9) (as := [aI z0]) rfl (by decide) rfl (Nat.le_of_ble_eq_true hl)
theorem u_C_takeNumber_65 : ex cal k_C_takeNumber 65 (ls) ([aI v]) h = some (some (aI v), h) := e_ret1 cal rfl
theorem n_C_takeNumber (d : Nat) : ev (d + 1) M_C_takeNumber [aQ (some a), aQ r0, aI z1] h = ex (ev d) k_C_takeNumber 0 [aQ (some a), aQ r0, aI z1] [] h := rfl
theorem u_C_copyNumbers_0 : ex cal k_C_copyNumbers 0 (x0 :: aQ r :: ls) (st) h = ex cal k_C_copyNumbers 1 (x0 :: aQ r :: ls) (aQ r :: st) h := ex_st cal (s := s_ald 1 1) rfl rfl
theorem u_C_copyNumbers_1 : ex cal k_C_copyNumbers 1 (ls) (aQ r :: st) h = if r = none then ex cal k_C_copyNumbers 12 (ls) (st) h else ex cal k_C_copyNumbers 4 (ls) (st) h := e_nul cal rfl
theorem u_C_copyNumbers_4 : ex cal k_C_copyNumbers 4 (x0 :: aQ r :: ls) (st) h = ex cal k_C_copyNumbers 5 (x0 :: aQ r :: ls) (aQ r :: st) h := ex_st cal (s := s_ald 1 5) rfl rfl
theorem u_C_copyNumbers_5 : ex cal k_C_copyNumbers 5 (ls) (aQ (some a) :: st) h = gO h a 6 (ex cal k_C_copyNumbers 8 (ls) (gf h a 0 :: st) h) := e_gf cal rfl
theorem u_C_copyNumbers_8 : ex cal k_C_copyNumbers 8 (ls) (st) h = ex cal k_C_copyNumbers 9 (ls) (aI (-1) :: st) h := e_push cal rfl
theorem u_C_copyNumbers_9 : ex cal k_C_copyNumbers 9 (ls) (aI j :: aI i :: st) h = if wr i = wr j then ex cal k_C_copyNumbers 12 (ls) (st) h else ex cal k_C_copyNumbers 19 (ls) (st) h := e_icne cal rfl
theorem u_C_copyNumbers_12 : ex cal k_C_copyNumbers 12 (aQ r :: ls) (st) h = ex cal k_C_copyNumbers 13 (aQ r :: ls) (aQ r :: st) h := ex_st cal (s := s_ald 0 13) rfl rfl
theorem u_C_copyNumbers_13 : ex cal k_C_copyNumbers 13 (ls) (st) h = ex cal k_C_copyNumbers 15 (ls) (aI 10 :: st) h := e_push cal rfl
theorem u_C_copyNumbers_15 (hl : Nat.ble st.length 4 = true) : ex cal k_C_copyNumbers 15 (ls) (aI z0 :: aQ (some a) :: st) h = gO h a 9 (kk cal k_C_copyNumbers 18 ls st (cal M_C_refused [aQ (some a), aI z0] h)) := e_callV cal (ci := 9) (as := [aI z0]) rfl (by decide) rfl (Nat.le_of_ble_eq_true hl)
theorem u_C_copyNumbers_18 : ex cal k_C_copyNumbers 18 (ls) ([aI v]) h = some (some (aI v), h) := e_ret1 cal rfl
theorem u_C_copyNumbers_19 : ex cal k_C_copyNumbers 19 (x0 :: aQ r :: ls) (st) h = ex cal k_C_copyNumbers 20 (x0 :: aQ r :: ls) (aQ r :: st) h := ex_st cal (s := s_ald 1 20) rfl rfl
theorem u_C_copyNumbers_20 : ex cal k_C_copyNumbers 20 (ls) (aQ (some a) :: st) h = gO h a 6 (ex cal k_C_copyNumbers 23 (ls) (gf h a 0 :: st) h) := e_gf cal rfl
theorem u_C_copyNumbers_23 : ex cal k_C_copyNumbers 23 (ls) (aI i :: st) h = if wr i = 0 then ex cal k_C_copyNumbers 33 (ls) (st) h else ex cal k_C_copyNumbers 26 (ls) (st) h := e_ifeq cal rfl
theorem u_C_copyNumbers_26 : ex cal k_C_copyNumbers 26 (aQ r :: ls) (st) h = ex cal k_C_copyNumbers 27 (aQ r :: ls) (aQ r :: st) h := ex_st cal (s := s_ald 0 27) rfl rfl
theorem u_C_copyNumbers_27 : ex cal k_C_copyNumbers 27 (ls) (st) h = ex cal k_C_copyNumbers 29 (ls) (aI 11 :: st) h := e_push cal rfl
theorem u_C_copyNumbers_29 (hl : Nat.ble st.length 4 = true) : ex cal k_C_copyNumbers 29 (ls) (aI z0 :: aQ (some a) :: st) h = gO h a 9 (kk cal k_C_copyNumbers 32 ls st (cal M_C_refused [aQ (some a), aI z0] h)) := e_callV cal (ci := 9) (as := [aI z0]) rfl (by decide) rfl (Nat.le_of_ble_eq_true hl)
theorem u_C_copyNumbers_32 : ex cal k_C_copyNumbers 32 (ls) ([aI v]) h = some (some (aI v), h) := e_ret1 cal rfl
theorem u_C_copyNumbers_33 : ex cal k_C_copyNumbers 33 (x0 :: x1 :: aI v :: ls) (st) h = ex cal k_C_copyNumbers 34 (x0 :: x1 :: aI v :: ls) (aI v :: st) h := ex_st cal (s := s_ild 2 34) rfl rfl
theorem u_C_copyNumbers_34 : ex cal k_C_copyNumbers 34 (ls) (aI i :: st) h = if wr i < 0 then ex cal k_C_copyNumbers 55 (ls) (st) h else ex cal k_C_copyNumbers 37 (ls) (st) h := e_iflt cal rfl
theorem u_C_copyNumbers_37 : ex cal k_C_copyNumbers 37 (ls) (st) h = ex cal k_C_copyNumbers 38 (ls) (aI 1 :: st) h := e_push cal rfl
theorem u_C_copyNumbers_38 : ex cal k_C_copyNumbers 38 (x0 :: x1 :: aI v :: ls) (st) h = ex cal k_C_copyNumbers 39 (x0 :: x1 :: aI v :: ls) (aI v :: st) h := ex_st cal (s := s_ild 2 39) rfl rfl
theorem u_C_copyNumbers_39 : ex cal k_C_copyNumbers 39 (ls) (aI j :: aI i :: st) h = ex cal k_C_copyNumbers 40 (ls) (aI (i + j) :: st) h := e_bin cal rfl
theorem u_C_copyNumbers_40 : ex cal k_C_copyNumbers 40 (x0 :: aQ r :: ls) (st) h = ex cal k_C_copyNumbers 41 (x0 :: aQ r :: ls) (aQ r :: st) h := ex_st cal (s := s_ald 1 41) rfl rfl
theorem u_C_copyNumbers_41 : ex cal k_C_copyNumbers 41 (ls) (aQ (some a) :: st) h = gO h a 6 (ex cal k_C_copyNumbers 44 (ls) (gf h a 1 :: st) h) := e_gf cal rfl
theorem u_C_copyNumbers_44 : ex cal k_C_copyNumbers 44 (ls) (aI j :: aI i :: st) h = if wr j < wr i then ex cal k_C_copyNumbers 55 (ls) (st) h else ex cal k_C_copyNumbers 47 (ls) (st) h := e_icgt cal rfl
theorem u_C_copyNumbers_47 : ex cal k_C_copyNumbers 47 (x0 :: x1 :: aI v :: ls) (st) h = ex cal k_C_copyNumbers 48 (x0 :: x1 :: aI v :: ls) (aI v :: st) h := ex_st cal (s := s_ild 2 48) rfl rfl
theorem u_C_copyNumbers_48 : ex cal k_C_copyNumbers 48 (x0 :: x1 :: aI v :: ls) (st) h = ex cal k_C_copyNumbers 49 (x0 :: x1 :: aI v :: ls) (aI v :: st) h := ex_st cal (s := s_ild 2 49) rfl rfl
theorem u_C_copyNumbers_49 : ex cal k_C_copyNumbers 49 (ls) (aI j :: aI i :: st) h = ex cal k_C_copyNumbers 50 (ls) (aI (i + j) :: st) h := e_bin cal rfl
theorem u_C_copyNumbers_50 : ex cal k_C_copyNumbers 50 (ls) (st) h = ex cal k_C_copyNumbers 52 (ls) (aI 6 :: st) h := e_push cal rfl
theorem u_C_copyNumbers_52 : ex cal k_C_copyNumbers 52 (ls) (aI j :: aI i :: st) h = if wr j < wr i then ex cal k_C_copyNumbers 55 (ls) (st) h else ex cal k_C_copyNumbers 62 (ls) (st) h := e_icle cal rfl
theorem u_C_copyNumbers_55 : ex cal k_C_copyNumbers 55 (aQ r :: ls) (st) h = ex cal k_C_copyNumbers 56 (aQ r :: ls) (aQ r :: st) h := ex_st cal (s := s_ald 0 56) rfl rfl
theorem u_C_copyNumbers_56 : ex cal k_C_copyNumbers 56 (ls) (st) h = ex cal k_C_copyNumbers 58 (ls) (aI 12 :: st) h := e_push cal rfl
theorem u_C_copyNumbers_58 (hl : Nat.ble st.length 4 = true) : ex cal k_C_copyNumbers 58 (ls) (aI z0 :: aQ (some a) :: st) h = gO h a 9 (kk cal k_C_copyNumbers 61 ls st (cal M_C_refused [aQ (some a), aI z0] h)) := e_callV cal (ci := 9) (as := [aI z0]) rfl (by decide) rfl (Nat.le_of_ble_eq_true hl)
theorem u_C_copyNumbers_61 : ex cal k_C_copyNumbers 61 (ls) ([aI v]) h = some (some (aI v), h) := e_ret1 cal rfl
theorem u_C_copyNumbers_62 : ex cal k_C_copyNumbers 62 (ls) (st) h = ex cal k_C_copyNumbers 63 (ls) (aI 0 :: st) h := e_push cal rfl
theorem u_C_copyNumbers_63 (hx : aNl x2 = true) : ex cal k_C_copyNumbers 63 (x0 :: x1 :: x2 :: y :: ls) (aI v :: st) h = ex cal k_C_copyNumbers 64 (x0 :: x1 :: x2 :: aI v :: ls) (st) h := e_ist (ls := x0 :: x1 :: x2 :: y :: ls) (k := 3) rfl hx (by simp only [List.length_cons]; omega)
theorem u_C_copyNumbers_64 : ex cal k_C_copyNumbers 64 (ls) (st) h = ex cal k_C_copyNumbers 65 (ls) (aI 1 :: st) h := e_push cal rfl
theorem u_C_copyNumbers_65 (hx : aNl x3 = true) : ex cal k_C_copyNumbers 65 (x0 :: x1 :: x2 :: x3 :: y :: ls) (aI v :: st) h = ex cal k_C_copyNumbers 67 (x0 :: x1 :: x2 :: x3 :: aI v :: ls) (st) h := e_ist (ls := x0 :: x1 :: x2 :: x3 :: y :: ls) (k := 4) rfl hx (by simp only [List.length_cons]; omega)
theorem u_C_copyNumbers_67 : ex cal k_C_copyNumbers 67 (x0 :: x1 :: x2 :: x3 :: aI v :: ls) (st) h = ex cal k_C_copyNumbers 69 (x0 :: x1 :: x2 :: x3 :: aI v :: ls) (aI v :: st) h := ex_st cal (s := s_ild 4 69) rfl rfl
theorem u_C_copyNumbers_69 : ex cal k_C_copyNumbers 69 (x0 :: x1 :: aI v :: ls) (st) h = ex cal k_C_copyNumbers 70 (x0 :: x1 :: aI v :: ls) (aI v :: st) h := ex_st cal (s := s_ild 2 70) rfl rfl
theorem u_C_copyNumbers_70 : ex cal k_C_copyNumbers 70 (ls) (aI j :: aI i :: st) h = if wr j < wr i then ex cal k_C_copyNumbers 89 (ls) (st) h else ex cal k_C_copyNumbers 73 (ls) (st) h := e_icgt cal rfl
theorem u_C_copyNumbers_73 : ex cal k_C_copyNumbers 73 (x0 :: x1 :: x2 :: aI v :: ls) (st) h = ex cal k_C_copyNumbers 74 (x0 :: x1 :: x2 :: aI v :: ls) (aI v :: st) h := ex_st cal (s := s_ild 3 74) rfl rfl
theorem u_C_copyNumbers_74 : ex cal k_C_copyNumbers 74 (x0 :: aQ r :: ls) (st) h = ex cal k_C_copyNumbers 75 (x0 :: aQ r :: ls) (aQ r :: st) h := ex_st cal (s := s_ald 1 75) rfl rfl
theorem u_C_copyNumbers_75 : ex cal k_C_copyNumbers 75 (ls) (aQ (some a) :: st) h = gO h a 6 (ex cal k_C_copyNumbers 78 (ls) (gf h a 2 :: st) h) := e_gf cal rfl
theorem u_C_copyNumbers_78 : ex cal k_C_copyNumbers 78 (x0 :: x1 :: x2 :: x3 :: aI v :: ls) (st) h = ex cal k_C_copyNumbers 80 (x0 :: x1 :: x2 :: x3 :: aI v :: ls) (aI v :: st) h := ex_st cal (s := s_ild 4 80) rfl rfl
theorem u_C_copyNumbers_80 : ex cal k_C_copyNumbers 80 (ls) (aI i :: aQ (some a) :: st) h = gA h a i (ex cal k_C_copyNumbers 81 (ls) (aI (ai h a (wr i)) :: st) h) := e_ia cal rfl
theorem u_C_copyNumbers_81 : ex cal k_C_copyNumbers 81 (ls) (aI j :: aI i :: st) h = ex cal k_C_copyNumbers 82 (ls) (aI (i + j) :: st) h := e_bin cal rfl
theorem u_C_copyNumbers_82 (hx : aNl x2 = true) : ex cal k_C_copyNumbers 82 (x0 :: x1 :: x2 :: y :: ls) (aI v :: st) h = ex cal k_C_copyNumbers 83 (x0 :: x1 :: x2 :: aI v :: ls) (st) h := e_ist (ls := x0 :: x1 :: x2 :: y :: ls) (k := 3) rfl hx (by simp only [List.length_cons]; omega)
theorem u_C_copyNumbers_83 (hx : aNl x3 = true) : ex cal k_C_copyNumbers 83 (x0 :: x1 :: x2 :: x3 :: aI v :: ls) (st) h = ex cal k_C_copyNumbers 86 (x0 :: x1 :: x2 :: x3 :: aI (v + 1) :: ls) (st) h := e_inc (ls := x0 :: x1 :: x2 :: x3 :: aI v :: ls) (k := 4) rfl rfl hx
theorem u_C_copyNumbers_86 : ex cal k_C_copyNumbers 86 (ls) (st) h = ex cal k_C_copyNumbers 67 (ls) (st) h := ex_st cal (s := s_go 67) rfl rfl
theorem u_C_copyNumbers_89 : ex cal k_C_copyNumbers 89 (aQ r :: ls) (st) h = ex cal k_C_copyNumbers 90 (aQ r :: ls) (aQ r :: st) h := ex_st cal (s := s_ald 0 90) rfl rfl
theorem u_C_copyNumbers_90 : ex cal k_C_copyNumbers 90 (x0 :: x1 :: x2 :: aI v :: ls) (st) h = ex cal k_C_copyNumbers 91 (x0 :: x1 :: x2 :: aI v :: ls) (aI v :: st) h := ex_st cal (s := s_ild 3 91) rfl rfl
theorem u_C_copyNumbers_91 (hl : Nat.ble st.length 4 = true) : ex cal k_C_copyNumbers 91 (ls) (aI z0 :: aQ (some a) :: st) h = gO h a 9 (kk cal k_C_copyNumbers 94 ls st (cal M_C_done [aQ (some a), aI z0] h)) := e_callV cal (ci := 9) (as := [aI z0]) rfl (by decide) rfl (Nat.le_of_ble_eq_true hl)
theorem u_C_copyNumbers_94 : ex cal k_C_copyNumbers 94 (ls) ([aI v]) h = some (some (aI v), h) := e_ret1 cal rfl
theorem n_C_copyNumbers (d : Nat) : ev (d + 1) M_C_copyNumbers [aQ (some a), aQ r0, aI z1] h = ex (ev d) k_C_copyNumbers 0 [aQ (some a), aQ r0, aI z1, aU, aU] [] h := rfl
theorem u_C_putAmongFormed_0 : ex cal k_C_putAmongFormed 0 (x0 :: aQ r :: ls) (st) h = ex cal k_C_putAmongFormed 1 (x0 :: aQ r :: ls) (aQ r :: st) h := ex_st cal (s := s_ald 1 1) rfl rfl
theorem u_C_putAmongFormed_1 : ex cal k_C_putAmongFormed 1 (ls) (aQ r :: st) h = if r = none then ex cal k_C_putAmongFormed 4 (ls) (st) h else ex cal k_C_putAmongFormed 10 (ls) (st) h := e_nul cal rfl
theorem u_C_putAmongFormed_4 : ex cal k_C_putAmongFormed 4 (aQ r :: ls) (st) h = ex cal k_C_putAmongFormed 5 (aQ r :: ls) (aQ r :: st) h := ex_st cal (s := s_ald 0 5) rfl rfl
theorem u_C_putAmongFormed_5 : ex cal k_C_putAmongFormed 5 (ls) (st) h = ex cal k_C_putAmongFormed 6 (ls) (aI 0 :: st) h := e_push cal rfl
theorem u_C_putAmongFormed_6 (hl : Nat.ble st.length 4 = true) : ex cal k_C_putAmongFormed 6 (ls) (aI z0 :: aQ (some a) :: st) h = gO h a 9 (kk cal k_C_putAmongFormed 9 ls st (cal M_C_done [aQ (some a), aI z0] h)) := e_callV cal (ci := 9) (as := [aI z0]) rfl (by decide) rfl (Nat.le_of_ble_eq_true hl)
theorem u_C_putAmongFormed_9 : ex cal k_C_putAmongFormed 9 (ls) ([aI v]) h = some (some (aI v), h) := e_ret1 cal rfl
theorem u_C_putAmongFormed_10 : ex cal k_C_putAmongFormed 10 (x0 :: aQ r :: ls) (st) h = ex cal k_C_putAmongFormed 11 (x0 :: aQ r :: ls) (aQ r :: st) h := ex_st cal (s := s_ald 1 11) rfl rfl
theorem u_C_putAmongFormed_11 : ex cal k_C_putAmongFormed 11 (ls) (aQ (some a) :: st) h = gO h a 1 (ex cal k_C_putAmongFormed 14 (ls) (gf h a 1 :: st) h) := e_gf cal rfl
theorem u_C_putAmongFormed_14 : ex cal k_C_putAmongFormed 14 (ls) (st) h = ex cal k_C_putAmongFormed 15 (ls) (aI 1 :: st) h := e_push cal rfl
theorem u_C_putAmongFormed_15 (hl : Nat.ble st.length 4 = true) : ex cal k_C_putAmongFormed 15 (ls) (aI z1 :: aI z0 :: st) h = kk cal k_C_putAmongFormed 18 ls st (cal M_C_isUnder [aI z0, aI z1] h) := e_call cal (as := [aI z1, aI z0]) rfl rfl (Nat.le_of_ble_eq_true hl)
theorem u_C_putAmongFormed_18 : ex cal k_C_putAmongFormed 18 (ls) (aI i :: st) h = if wr i = 0 then ex cal k_C_putAmongFormed 32 (ls) (st) h else ex cal k_C_putAmongFormed 21 (ls) (st) h := e_ifeq cal rfl
theorem u_C_putAmongFormed_21 : ex cal k_C_putAmongFormed 21 (aQ r :: ls) (st) h = ex cal k_C_putAmongFormed 22 (aQ r :: ls) (aQ r :: st) h := ex_st cal (s := s_ald 0 22) rfl rfl
theorem u_C_putAmongFormed_22 : ex cal k_C_putAmongFormed 22 (x0 :: aQ r :: ls) (st) h = ex cal k_C_putAmongFormed 23 (x0 :: aQ r :: ls) (aQ r :: st) h := ex_st cal (s := s_ald 1 23) rfl rfl
theorem u_C_putAmongFormed_23 : ex cal k_C_putAmongFormed 23 (ls) (aQ (some a) :: st) h = gO h a 1 (ex cal k_C_putAmongFormed 26 (ls) (gf h a 1 :: st) h) := e_gf cal rfl
theorem u_C_putAmongFormed_26 (hl : Nat.ble st.length 4 = true) : ex cal k_C_putAmongFormed 26 (ls) (aI z0 :: aQ (some a) :: st) h = gO h a 9 (kk cal k_C_putAmongFormed 29 ls st (cal M_C_done [aQ (some a), aI z0] h)) := e_callV cal (ci := 9) (as := [aI z0]) rfl (by decide) rfl (Nat.le_of_ble_eq_true hl)
theorem u_C_putAmongFormed_29 : ex cal k_C_putAmongFormed 29 (ls) (st) h = ex cal k_C_putAmongFormed 38 (ls) (st) h := ex_st cal (s := s_go 38) rfl rfl
theorem u_C_putAmongFormed_32 : ex cal k_C_putAmongFormed 32 (aQ r :: ls) (st) h = ex cal k_C_putAmongFormed 33 (aQ r :: ls) (aQ r :: st) h := ex_st cal (s := s_ald 0 33) rfl rfl
theorem u_C_putAmongFormed_33 : ex cal k_C_putAmongFormed 33 (ls) (st) h = ex cal k_C_putAmongFormed 35 (ls) (aI 14 :: st) h := e_push cal rfl
theorem u_C_putAmongFormed_35 (hl : Nat.ble st.length 4 = true) : ex cal k_C_putAmongFormed 35 (ls) (aI z0 :: aQ (some a) :: st) h = gO h a 9 (kk cal k_C_putAmongFormed 38 ls st (cal M_C_refused [aQ (some a), aI z0] h)) := e_callV cal (ci := 9) (as := [aI z0]) rfl (by decide) rfl (Nat.le_of_ble_eq_true hl)
theorem u_C_putAmongFormed_38 : ex cal k_C_putAmongFormed 38 (ls) ([aI v]) h = some (some (aI v), h) := e_ret1 cal rfl
theorem n_C_putAmongFormed (d : Nat) : ev (d + 1) M_C_putAmongFormed [aQ (some a), aQ r0] h = ex (ev d) k_C_putAmongFormed 0 [aQ (some a), aQ r0] [] h := rfl
theorem u_C_isText_0 : ex cal k_C_isText 0 (aI v :: ls) (st) h = ex cal k_C_isText 1 (aI v :: ls) (aI v :: st) h := ex_st cal (s := s_ild 0 1) rfl rfl
theorem u_C_isText_1 : ex cal k_C_isText 1 (ls) (st) h = ex cal k_C_isText 3 (ls) (aI 10 :: st) h := e_push cal rfl
theorem u_C_isText_3 : ex cal k_C_isText 3 (ls) (aI j :: aI i :: st) h = if wr i < wr j then ex cal k_C_isText 17 (ls) (st) h else ex cal k_C_isText 6 (ls) (st) h := e_iclt cal rfl
theorem u_C_isText_6 : ex cal k_C_isText 6 (aI v :: ls) (st) h = ex cal k_C_isText 7 (aI v :: ls) (aI v :: st) h := ex_st cal (s := s_ild 0 7) rfl rfl
theorem u_C_isText_7 : ex cal k_C_isText 7 (ls) (st) h = ex cal k_C_isText 10 (ls) (aI 9999 :: st) h := e_push cal rfl
theorem u_C_isText_10 : ex cal k_C_isText 10 (ls) (aI j :: aI i :: st) h = if wr j < wr i then ex cal k_C_isText 17 (ls) (st) h else ex cal k_C_isText 13 (ls) (st) h := e_icgt cal rfl
theorem u_C_isText_13 : ex cal k_C_isText 13 (ls) (st) h = ex cal k_C_isText 14 (ls) (aI 1 :: st) h := e_push cal rfl
theorem u_C_isText_14 : ex cal k_C_isText 14 (ls) (st) h = ex cal k_C_isText 18 (ls) (st) h := ex_st cal (s := s_go 18) rfl rfl
theorem u_C_isText_17 : ex cal k_C_isText 17 (ls) (st) h = ex cal k_C_isText 18 (ls) (aI 0 :: st) h := e_push cal rfl
theorem u_C_isText_18 (hv : v = 0 ∨ v = 1) : ex cal k_C_isText 18 (ls) ([aI v]) h = some (some (aI v), h) := e_ret22 rfl hv
theorem n_C_isText (d : Nat) : ev (d + 1) M_C_isText [aI z0] h = ex (ev d) k_C_isText 0 [aI z0] [] h := rfl
theorem u_C_isUnder_0 : ex cal k_C_isUnder 0 (aI v :: ls) (st) h = ex cal k_C_isUnder 1 (aI v :: ls) (aI v :: st) h := ex_st cal (s := s_ild 0 1) rfl rfl
theorem u_C_isUnder_1 (hx : aNl x1 = true) : ex cal k_C_isUnder 1 (x0 :: x1 :: y :: ls) (aI v :: st) h = ex cal k_C_isUnder 2 (x0 :: x1 :: aI v :: ls) (st) h := e_ist (ls := x0 :: x1 :: y :: ls) (k := 2) rfl hx (by simp only [List.length_cons]; omega)
theorem u_C_isUnder_2 : ex cal k_C_isUnder 2 (ls) (st) h = ex cal k_C_isUnder 3 (ls) (aI 0 :: st) h := e_push cal rfl
theorem u_C_isUnder_3 (hx : aNl x2 = true) : ex cal k_C_isUnder 3 (x0 :: x1 :: x2 :: y :: ls) (aI v :: st) h = ex cal k_C_isUnder 4 (x0 :: x1 :: x2 :: aI v :: ls) (st) h := e_ist (ls := x0 :: x1 :: x2 :: y :: ls) (k := 3) rfl hx (by simp only [List.length_cons]; omega)
theorem u_C_isUnder_4 : ex cal k_C_isUnder 4 (x0 :: x1 :: x2 :: aI v :: ls) (st) h = ex cal k_C_isUnder 5 (x0 :: x1 :: x2 :: aI v :: ls) (aI v :: st) h := ex_st cal (s := s_ild 3 5) rfl rfl
theorem u_C_isUnder_5 : ex cal k_C_isUnder 5 (ls) (st) h = ex cal k_C_isUnder 7 (ls) (aI 6 :: st) h := e_push cal rfl
theorem u_C_isUnder_7 : ex cal k_C_isUnder 7 (ls) (aI j :: aI i :: st) h = if wr i < wr j then ex cal k_C_isUnder 10 (ls) (st) h else ex cal k_C_isUnder 39 (ls) (st) h := e_icge cal rfl
theorem u_C_isUnder_10 : ex cal k_C_isUnder 10 (x0 :: x1 :: aI v :: ls) (st) h = ex cal k_C_isUnder 11 (x0 :: x1 :: aI v :: ls) (aI v :: st) h := ex_st cal (s := s_ild 2 11) rfl rfl
theorem u_C_isUnder_11 : ex cal k_C_isUnder 11 (ls) (aI i :: st) h = if wr i < 0 then ex cal k_C_isUnder 39 (ls) (st) h else ex cal k_C_isUnder 14 (ls) (st) h := e_iflt cal rfl
theorem u_C_isUnder_14 : ex cal k_C_isUnder 14 (x0 :: x1 :: aI v :: ls) (st) h = ex cal k_C_isUnder 15 (x0 :: x1 :: aI v :: ls) (aI v :: st) h := ex_st cal (s := s_ild 2 15) rfl rfl
theorem u_C_isUnder_15 : ex cal k_C_isUnder 15 (ls) (st) h = ex cal k_C_isUnder 17 (ls) (aI 6 :: st) h := e_push cal rfl
theorem u_C_isUnder_17 : ex cal k_C_isUnder 17 (ls) (aI j :: aI i :: st) h = if wr i < wr j then ex cal k_C_isUnder 20 (ls) (st) h else ex cal k_C_isUnder 39 (ls) (st) h := e_icge cal rfl
theorem u_C_isUnder_20 : ex cal k_C_isUnder 20 (x0 :: x1 :: aI v :: ls) (st) h = ex cal k_C_isUnder 21 (x0 :: x1 :: aI v :: ls) (aI v :: st) h := ex_st cal (s := s_ild 2 21) rfl rfl
theorem u_C_isUnder_21 : ex cal k_C_isUnder 21 (x0 :: aI v :: ls) (st) h = ex cal k_C_isUnder 22 (x0 :: aI v :: ls) (aI v :: st) h := ex_st cal (s := s_ild 1 22) rfl rfl
theorem u_C_isUnder_22 : ex cal k_C_isUnder 22 (ls) (aI j :: aI i :: st) h = if wr i = wr j then ex cal k_C_isUnder 25 (ls) (st) h else ex cal k_C_isUnder 27 (ls) (st) h := e_icne cal rfl
theorem u_C_isUnder_25 : ex cal k_C_isUnder 25 (ls) (st) h = ex cal k_C_isUnder 26 (ls) (aI 1 :: st) h := e_push cal rfl
theorem u_C_isUnder_26 (hv : v = 0 ∨ v = 1) : ex cal k_C_isUnder 26 (ls) ([aI v]) h = some (some (aI v), h) := e_ret22 rfl hv
theorem u_C_isUnder_27 : ex cal k_C_isUnder 27 (ls) (st) h = ex cal k_C_isUnder 30 (ls) (aQ (some 1) :: st) h := e_push cal rfl
theorem u_C_isUnder_30 : ex cal k_C_isUnder 30 (x0 :: x1 :: aI v :: ls) (st) h = ex cal k_C_isUnder 31 (x0 :: x1 :: aI v :: ls) (aI v :: st) h := ex_st cal (s := s_ild 2 31) rfl rfl
theorem u_C_isUnder_31 : ex cal k_C_isUnder 31 (ls) (aI i :: aQ (some a) :: st) h = gA h a i (ex cal k_C_isUnder 32 (ls) (aI (ai h a (wr i)) :: st) h) := e_ia cal rfl
theorem u_C_isUnder_32 (hx : aNl x1 = true) : ex cal k_C_isUnder 32 (x0 :: x1 :: y :: ls) (aI v :: st) h = ex cal k_C_isUnder 33 (x0 :: x1 :: aI v :: ls) (st) h := e_ist (ls := x0 :: x1 :: y :: ls) (k := 2) rfl hx (by simp only [List.length_cons]; omega)
theorem u_C_isUnder_33 (hx : aNl x2 = true) : ex cal k_C_isUnder 33 (x0 :: x1 :: x2 :: aI v :: ls) (st) h = ex cal k_C_isUnder 36 (x0 :: x1 :: x2 :: aI (v + 1) :: ls) (st) h := e_inc (ls := x0 :: x1 :: x2 :: aI v :: ls) (k := 3) rfl rfl hx
theorem u_C_isUnder_36 : ex cal k_C_isUnder 36 (ls) (st) h = ex cal k_C_isUnder 4 (ls) (st) h := ex_st cal (s := s_go 4) rfl rfl
theorem u_C_isUnder_39 : ex cal k_C_isUnder 39 (ls) (st) h = ex cal k_C_isUnder 40 (ls) (aI 0 :: st) h := e_push cal rfl
theorem u_C_isUnder_40 (hv : v = 0 ∨ v = 1) : ex cal k_C_isUnder 40 (ls) ([aI v]) h = some (some (aI v), h) := e_ret22 rfl hv
theorem n_C_isUnder (d : Nat) : ev (d + 1) M_C_isUnder [aI z0, aI z1] h = ex (ev d) k_C_isUnder 0 [aI z0, aI z1, aU, aU] [] h := rfl
theorem u_J_lowestOneBit_0 : ex cal k_J_lowestOneBit 0 (aI v :: ls) (st) h = ex cal k_J_lowestOneBit 1 (aI v :: ls) (aI v :: st) h := ex_st cal (s := s_ild 0 1) rfl rfl
theorem u_J_lowestOneBit_1 : ex cal k_J_lowestOneBit 1 (aI v :: ls) (st) h = ex cal k_J_lowestOneBit 2 (aI v :: ls) (aI v :: st) h := ex_st cal (s := s_ild 0 2) rfl rfl
theorem u_J_lowestOneBit_2 : ex cal k_J_lowestOneBit 2 (ls) (aI i :: st) h = ex cal k_J_lowestOneBit 3 (ls) (aI (-i) :: st) h := ex_st cal (s := s_neg 3) rfl rfl
theorem u_J_lowestOneBit_3 : ex cal k_J_lowestOneBit 3 (ls) (aI j :: aI i :: st) h = ex cal k_J_lowestOneBit 4 (ls) (aI (wand i j) :: st) h := e_bin cal rfl
theorem u_J_lowestOneBit_4 : ex cal k_J_lowestOneBit 4 (ls) ([aI v]) h = some (some (aI v), h) := e_ret1 cal rfl
theorem n_J_lowestOneBit (d : Nat) : ev (d + 1) M_J_lowestOneBit [aI z0] h = ex (ev d) k_J_lowestOneBit 0 [aI z0] [] h := rfl
theorem u_J_bitCount_0 : ex cal k_J_bitCount 0 (aI v :: ls) (st) h = ex cal k_J_bitCount 1 (aI v :: ls) (aI v :: st) h := ex_st cal (s := s_ild 0 1) rfl rfl
theorem u_J_bitCount_1 : ex cal k_J_bitCount 1 (aI v :: ls) (st) h = ex cal k_J_bitCount 2 (aI v :: ls) (aI v :: st) h := ex_st cal (s := s_ild 0 2) rfl rfl
theorem u_J_bitCount_2 : ex cal k_J_bitCount 2 (ls) (st) h = ex cal k_J_bitCount 3 (ls) (aI 1 :: st) h := e_push cal rfl
theorem u_J_bitCount_3 : ex cal k_J_bitCount 3 (ls) (aI j :: aI i :: st) h = ex cal k_J_bitCount 4 (ls) (aI (wush i j) :: st) h := e_bin cal rfl
theorem u_J_bitCount_4 : ex cal k_J_bitCount 4 (ls) (st) h = ex cal k_J_bitCount 7 (ls) (aI 1431655765 :: st) h := e_push cal rfl
theorem u_J_bitCount_7 : ex cal k_J_bitCount 7 (ls) (aI j :: aI i :: st) h = ex cal k_J_bitCount 8 (ls) (aI (wand i j) :: st) h := e_bin cal rfl
theorem u_J_bitCount_8 : ex cal k_J_bitCount 8 (ls) (aI j :: aI i :: st) h = ex cal k_J_bitCount 9 (ls) (aI (i - j) :: st) h := e_bin cal rfl
theorem u_J_bitCount_9 : ex cal k_J_bitCount 9 (y :: ls) (aI v :: st) h = ex cal k_J_bitCount 10 (aI v :: ls) (st) h := e_ist (ls := y :: ls) (k := 0) rfl rfl (by simp only [List.length_cons]; omega)
theorem u_J_bitCount_10 : ex cal k_J_bitCount 10 (aI v :: ls) (st) h = ex cal k_J_bitCount 11 (aI v :: ls) (aI v :: st) h := ex_st cal (s := s_ild 0 11) rfl rfl
theorem u_J_bitCount_11 : ex cal k_J_bitCount 11 (ls) (st) h = ex cal k_J_bitCount 14 (ls) (aI 858993459 :: st) h := e_push cal rfl
theorem u_J_bitCount_14 : ex cal k_J_bitCount 14 (ls) (aI j :: aI i :: st) h = ex cal k_J_bitCount 15 (ls) (aI (wand i j) :: st) h := e_bin cal rfl
theorem u_J_bitCount_15 : ex cal k_J_bitCount 15 (aI v :: ls) (st) h = ex cal k_J_bitCount 16 (aI v :: ls) (aI v :: st) h := ex_st cal (s := s_ild 0 16) rfl rfl
theorem u_J_bitCount_16 : ex cal k_J_bitCount 16 (ls) (st) h = ex cal k_J_bitCount 17 (ls) (aI 2 :: st) h := e_push cal rfl
theorem u_J_bitCount_17 : ex cal k_J_bitCount 17 (ls) (aI j :: aI i :: st) h = ex cal k_J_bitCount 18 (ls) (aI (wush i j) :: st) h := e_bin cal rfl
theorem u_J_bitCount_18 : ex cal k_J_bitCount 18 (ls) (st) h = ex cal k_J_bitCount 21 (ls) (aI 858993459 :: st) h := e_push cal rfl
theorem u_J_bitCount_21 : ex cal k_J_bitCount 21 (ls) (aI j :: aI i :: st) h = ex cal k_J_bitCount 22 (ls) (aI (wand i j) :: st) h := e_bin cal rfl
theorem u_J_bitCount_22 : ex cal k_J_bitCount 22 (ls) (aI j :: aI i :: st) h = ex cal k_J_bitCount 23 (ls) (aI (i + j) :: st) h := e_bin cal rfl
theorem u_J_bitCount_23 : ex cal k_J_bitCount 23 (y :: ls) (aI v :: st) h = ex cal k_J_bitCount 24 (aI v :: ls) (st) h := e_ist (ls := y :: ls) (k := 0) rfl rfl (by simp only [List.length_cons]; omega)
theorem u_J_bitCount_24 : ex cal k_J_bitCount 24 (aI v :: ls) (st) h = ex cal k_J_bitCount 25 (aI v :: ls) (aI v :: st) h := ex_st cal (s := s_ild 0 25) rfl rfl
theorem u_J_bitCount_25 : ex cal k_J_bitCount 25 (aI v :: ls) (st) h = ex cal k_J_bitCount 26 (aI v :: ls) (aI v :: st) h := ex_st cal (s := s_ild 0 26) rfl rfl
theorem u_J_bitCount_26 : ex cal k_J_bitCount 26 (ls) (st) h = ex cal k_J_bitCount 27 (ls) (aI 4 :: st) h := e_push cal rfl
theorem u_J_bitCount_27 : ex cal k_J_bitCount 27 (ls) (aI j :: aI i :: st) h = ex cal k_J_bitCount 28 (ls) (aI (wush i j) :: st) h := e_bin cal rfl
theorem u_J_bitCount_28 : ex cal k_J_bitCount 28 (ls) (aI j :: aI i :: st) h = ex cal k_J_bitCount 29 (ls) (aI (i + j) :: st) h := e_bin cal rfl
theorem u_J_bitCount_29 : ex cal k_J_bitCount 29 (ls) (st) h = ex cal k_J_bitCount 32 (ls) (aI 252645135 :: st) h := e_push cal rfl
theorem u_J_bitCount_32 : ex cal k_J_bitCount 32 (ls) (aI j :: aI i :: st) h = ex cal k_J_bitCount 33 (ls) (aI (wand i j) :: st) h := e_bin cal rfl
theorem u_J_bitCount_33 : ex cal k_J_bitCount 33 (y :: ls) (aI v :: st) h = ex cal k_J_bitCount 34 (aI v :: ls) (st) h := e_ist (ls := y :: ls) (k := 0) rfl rfl (by simp only [List.length_cons]; omega)
theorem u_J_bitCount_34 : ex cal k_J_bitCount 34 (aI v :: ls) (st) h = ex cal k_J_bitCount 35 (aI v :: ls) (aI v :: st) h := ex_st cal (s := s_ild 0 35) rfl rfl
theorem u_J_bitCount_35 : ex cal k_J_bitCount 35 (aI v :: ls) (st) h = ex cal k_J_bitCount 36 (aI v :: ls) (aI v :: st) h := ex_st cal (s := s_ild 0 36) rfl rfl
theorem u_J_bitCount_36 : ex cal k_J_bitCount 36 (ls) (st) h = ex cal k_J_bitCount 38 (ls) (aI 8 :: st) h := e_push cal rfl
theorem u_J_bitCount_38 : ex cal k_J_bitCount 38 (ls) (aI j :: aI i :: st) h = ex cal k_J_bitCount 39 (ls) (aI (wush i j) :: st) h := e_bin cal rfl
theorem u_J_bitCount_39 : ex cal k_J_bitCount 39 (ls) (aI j :: aI i :: st) h = ex cal k_J_bitCount 40 (ls) (aI (i + j) :: st) h := e_bin cal rfl
theorem u_J_bitCount_40 : ex cal k_J_bitCount 40 (y :: ls) (aI v :: st) h = ex cal k_J_bitCount 41 (aI v :: ls) (st) h := e_ist (ls := y :: ls) (k := 0) rfl rfl (by simp only [List.length_cons]; omega)
theorem u_J_bitCount_41 : ex cal k_J_bitCount 41 (aI v :: ls) (st) h = ex cal k_J_bitCount 42 (aI v :: ls) (aI v :: st) h := ex_st cal (s := s_ild 0 42) rfl rfl
theorem u_J_bitCount_42 : ex cal k_J_bitCount 42 (aI v :: ls) (st) h = ex cal k_J_bitCount 43 (aI v :: ls) (aI v :: st) h := ex_st cal (s := s_ild 0 43) rfl rfl
theorem u_J_bitCount_43 : ex cal k_J_bitCount 43 (ls) (st) h = ex cal k_J_bitCount 45 (ls) (aI 16 :: st) h := e_push cal rfl
theorem u_J_bitCount_45 : ex cal k_J_bitCount 45 (ls) (aI j :: aI i :: st) h = ex cal k_J_bitCount 46 (ls) (aI (wush i j) :: st) h := e_bin cal rfl
theorem u_J_bitCount_46 : ex cal k_J_bitCount 46 (ls) (aI j :: aI i :: st) h = ex cal k_J_bitCount 47 (ls) (aI (i + j) :: st) h := e_bin cal rfl
theorem u_J_bitCount_47 : ex cal k_J_bitCount 47 (y :: ls) (aI v :: st) h = ex cal k_J_bitCount 48 (aI v :: ls) (st) h := e_ist (ls := y :: ls) (k := 0) rfl rfl (by simp only [List.length_cons]; omega)
theorem u_J_bitCount_48 : ex cal k_J_bitCount 48 (aI v :: ls) (st) h = ex cal k_J_bitCount 49 (aI v :: ls) (aI v :: st) h := ex_st cal (s := s_ild 0 49) rfl rfl
theorem u_J_bitCount_49 : ex cal k_J_bitCount 49 (ls) (st) h = ex cal k_J_bitCount 51 (ls) (aI 63 :: st) h := e_push cal rfl
theorem u_J_bitCount_51 : ex cal k_J_bitCount 51 (ls) (aI j :: aI i :: st) h = ex cal k_J_bitCount 52 (ls) (aI (wand i j) :: st) h := e_bin cal rfl
theorem u_J_bitCount_52 : ex cal k_J_bitCount 52 (ls) ([aI v]) h = some (some (aI v), h) := e_ret1 cal rfl
theorem n_J_bitCount (d : Nat) : ev (d + 1) M_J_bitCount [aI z0] h = ex (ev d) k_J_bitCount 0 [aI z0] [] h := rfl
theorem u_J_floorMod_0 : ex cal k_J_floorMod 0 (aI v :: ls) (st) h = ex cal k_J_floorMod 1 (aI v :: ls) (aI v :: st) h := ex_st cal (s := s_ild 0 1) rfl rfl
theorem u_J_floorMod_1 : ex cal k_J_floorMod 1 (x0 :: aI v :: ls) (st) h = ex cal k_J_floorMod 2 (x0 :: aI v :: ls) (aI v :: st) h := ex_st cal (s := s_ild 1 2) rfl rfl
theorem u_J_floorMod_2 (h0 : j ≠ 0) (h1 : -2147483648 ≤ j) (h2 : j < 2147483648) : ex cal k_J_floorMod 2 (ls) (aI j :: aI i :: st) h = ex cal k_J_floorMod 3 (ls) (aI ((wr i).tmod j) :: st) h := e_rem2 rfl h0 h1 h2
theorem u_J_floorMod_3 (hx : aNl x1 = true) : ex cal k_J_floorMod 3 (x0 :: x1 :: y :: ls) (aI v :: st) h = ex cal k_J_floorMod 4 (x0 :: x1 :: aI v :: ls) (st) h := e_ist (ls := x0 :: x1 :: y :: ls) (k := 2) rfl hx (by simp only [List.length_cons]; omega)
theorem u_J_floorMod_4 : ex cal k_J_floorMod 4 (aI v :: ls) (st) h = ex cal k_J_floorMod 5 (aI v :: ls) (aI v :: st) h := ex_st cal (s := s_ild 0 5) rfl rfl
theorem u_J_floorMod_5 : ex cal k_J_floorMod 5 (x0 :: aI v :: ls) (st) h = ex cal k_J_floorMod 6 (x0 :: aI v :: ls) (aI v :: st) h := ex_st cal (s := s_ild 1 6) rfl rfl
theorem u_J_floorMod_6 : ex cal k_J_floorMod 6 (ls) (aI j :: aI i :: st) h = ex cal k_J_floorMod 7 (ls) (aI (wxor i j) :: st) h := e_bin cal rfl
theorem u_J_floorMod_7 : ex cal k_J_floorMod 7 (ls) (aI i :: st) h = if wr i < 0 then ex cal k_J_floorMod 10 (ls) (st) h else ex cal k_J_floorMod 18 (ls) (st) h := e_ifge cal rfl
theorem u_J_floorMod_10 : ex cal k_J_floorMod 10 (x0 :: x1 :: aI v :: ls) (st) h = ex cal k_J_floorMod 11 (x0 :: x1 :: aI v :: ls) (aI v :: st) h := ex_st cal (s := s_ild 2 11) rfl rfl
theorem u_J_floorMod_11 : ex cal k_J_floorMod 11 (ls) (aI i :: st) h = if wr i = 0 then ex cal k_J_floorMod 18 (ls) (st) h else ex cal k_J_floorMod 14 (ls) (st) h := e_ifeq cal rfl
theorem u_J_floorMod_14 : ex cal k_J_floorMod 14 (x0 :: x1 :: aI v :: ls) (st) h = ex cal k_J_floorMod 15 (x0 :: x1 :: aI v :: ls) (aI v :: st) h := ex_st cal (s := s_ild 2 15) rfl rfl
theorem u_J_floorMod_15 : ex cal k_J_floorMod 15 (x0 :: aI v :: ls) (st) h = ex cal k_J_floorMod 16 (x0 :: aI v :: ls) (aI v :: st) h := ex_st cal (s := s_ild 1 16) rfl rfl
theorem u_J_floorMod_16 : ex cal k_J_floorMod 16 (ls) (aI j :: aI i :: st) h = ex cal k_J_floorMod 17 (ls) (aI (i + j) :: st) h := e_bin cal rfl
theorem u_J_floorMod_17 : ex cal k_J_floorMod 17 (ls) ([aI v]) h = some (some (aI v), h) := e_ret1 cal rfl
theorem u_J_floorMod_18 : ex cal k_J_floorMod 18 (x0 :: x1 :: aI v :: ls) (st) h = ex cal k_J_floorMod 19 (x0 :: x1 :: aI v :: ls) (aI v :: st) h := ex_st cal (s := s_ild 2 19) rfl rfl
theorem u_J_floorMod_19 : ex cal k_J_floorMod 19 (ls) ([aI v]) h = some (some (aI v), h) := e_ret1 cal rfl
theorem n_J_floorMod (d : Nat) : ev (d + 1) M_J_floorMod [aI z0, aI z1] h = ex (ev d) k_J_floorMod 0 [aI z0, aI z1, aU] [] h := rfl
theorem u_J_max_0 : ex cal k_J_max 0 (aI v :: ls) (st) h = ex cal k_J_max 1 (aI v :: ls) (aI v :: st) h := ex_st cal (s := s_ild 0 1) rfl rfl
theorem u_J_max_1 : ex cal k_J_max 1 (x0 :: aI v :: ls) (st) h = ex cal k_J_max 2 (x0 :: aI v :: ls) (aI v :: st) h := ex_st cal (s := s_ild 1 2) rfl rfl
theorem u_J_max_2 : ex cal k_J_max 2 (ls) (aI j :: aI i :: st) h = if wr i < wr j then ex cal k_J_max 9 (ls) (st) h else ex cal k_J_max 5 (ls) (st) h := e_iclt cal rfl
theorem u_J_max_5 : ex cal k_J_max 5 (aI v :: ls) (st) h = ex cal k_J_max 6 (aI v :: ls) (aI v :: st) h := ex_st cal (s := s_ild 0 6) rfl rfl
theorem u_J_max_6 : ex cal k_J_max 6 (ls) (st) h = ex cal k_J_max 10 (ls) (st) h := ex_st cal (s := s_go 10) rfl rfl
theorem u_J_max_9 : ex cal k_J_max 9 (x0 :: aI v :: ls) (st) h = ex cal k_J_max 10 (x0 :: aI v :: ls) (aI v :: st) h := ex_st cal (s := s_ild 1 10) rfl rfl
theorem u_J_max_10 : ex cal k_J_max 10 (ls) ([aI v]) h = some (some (aI v), h) := e_ret1 cal rfl
theorem n_J_max (d : Nat) : ev (d + 1) M_J_max [aI z0, aI z1] h = ex (ev d) k_J_max 0 [aI z0, aI z1] [] h := rfl
theorem u_J_min_0 : ex cal k_J_min 0 (aI v :: ls) (st) h = ex cal k_J_min 1 (aI v :: ls) (aI v :: st) h := ex_st cal (s := s_ild 0 1) rfl rfl
theorem u_J_min_1 : ex cal k_J_min 1 (x0 :: aI v :: ls) (st) h = ex cal k_J_min 2 (x0 :: aI v :: ls) (aI v :: st) h := ex_st cal (s := s_ild 1 2) rfl rfl
theorem u_J_min_2 : ex cal k_J_min 2 (ls) (aI j :: aI i :: st) h = if wr j < wr i then ex cal k_J_min 9 (ls) (st) h else ex cal k_J_min 5 (ls) (st) h := e_icgt cal rfl
theorem u_J_min_5 : ex cal k_J_min 5 (aI v :: ls) (st) h = ex cal k_J_min 6 (aI v :: ls) (aI v :: st) h := ex_st cal (s := s_ild 0 6) rfl rfl
theorem u_J_min_6 : ex cal k_J_min 6 (ls) (st) h = ex cal k_J_min 10 (ls) (st) h := ex_st cal (s := s_go 10) rfl rfl
theorem u_J_min_9 : ex cal k_J_min 9 (x0 :: aI v :: ls) (st) h = ex cal k_J_min 10 (x0 :: aI v :: ls) (aI v :: st) h := ex_st cal (s := s_ild 1 10) rfl rfl
theorem u_J_min_10 : ex cal k_J_min 10 (ls) ([aI v]) h = some (some (aI v), h) := e_ret1 cal rfl
theorem n_J_min (d : Nat) : ev (d + 1) M_J_min [aI z0, aI z1] h = ex (ev d) k_J_min 0 [aI z0, aI z1] [] h := rfl
theorem u_J_fill_0 : ex cal k_J_fill 0 (ls) (st) h = ex cal k_J_fill 1 (ls) (aI 0 :: st) h := e_push cal rfl
theorem u_J_fill_1 (hx : aNl x1 = true) : ex cal k_J_fill 1 (x0 :: x1 :: y :: ls) (aI v :: st) h = ex cal k_J_fill 2 (x0 :: x1 :: aI v :: ls) (st) h := e_ist (ls := x0 :: x1 :: y :: ls) (k := 2) rfl hx (by simp only [List.length_cons]; omega)
theorem u_J_fill_2 : ex cal k_J_fill 2 (aQ r :: ls) (st) h = ex cal k_J_fill 3 (aQ r :: ls) (aQ r :: st) h := ex_st cal (s := s_ald 0 3) rfl rfl
theorem u_J_fill_3 : ex cal k_J_fill 3 (ls) (aQ (some a) :: st) h = gB (isAR h a) (ex cal k_J_fill 4 (ls) (aI (al h a) :: st) h) := e_len cal rfl
theorem u_J_fill_4 (hx : aNl x2 = true) : ex cal k_J_fill 4 (x0 :: x1 :: x2 :: y :: ls) (aI v :: st) h = ex cal k_J_fill 5 (x0 :: x1 :: x2 :: aI v :: ls) (st) h := e_ist (ls := x0 :: x1 :: x2 :: y :: ls) (k := 3) rfl hx (by simp only [List.length_cons]; omega)
theorem u_J_fill_5 : ex cal k_J_fill 5 (x0 :: x1 :: aI v :: ls) (st) h = ex cal k_J_fill 6 (x0 :: x1 :: aI v :: ls) (aI v :: st) h := ex_st cal (s := s_ild 2 6) rfl rfl
theorem u_J_fill_6 : ex cal k_J_fill 6 (x0 :: x1 :: x2 :: aI v :: ls) (st) h = ex cal k_J_fill 7 (x0 :: x1 :: x2 :: aI v :: ls) (aI v :: st) h := ex_st cal (s := s_ild 3 7) rfl rfl
theorem u_J_fill_7 : ex cal k_J_fill 7 (ls) (aI j :: aI i :: st) h = if wr i < wr j then ex cal k_J_fill 10 (ls) (st) h else ex cal k_J_fill 20 (ls) (st) h := e_icge cal rfl
theorem u_J_fill_10 : ex cal k_J_fill 10 (aQ r :: ls) (st) h = ex cal k_J_fill 11 (aQ r :: ls) (aQ r :: st) h := ex_st cal (s := s_ald 0 11) rfl rfl
theorem u_J_fill_11 : ex cal k_J_fill 11 (x0 :: x1 :: aI v :: ls) (st) h = ex cal k_J_fill 12 (x0 :: x1 :: aI v :: ls) (aI v :: st) h := ex_st cal (s := s_ild 2 12) rfl rfl
theorem u_J_fill_12 : ex cal k_J_fill 12 (x0 :: aI v :: ls) (st) h = ex cal k_J_fill 13 (x0 :: aI v :: ls) (aI v :: st) h := ex_st cal (s := s_ild 1 13) rfl rfl
theorem u_J_fill_13 (h3 : 3 ≤ a) : ex cal k_J_fill 13 (ls) (aI v :: aI i :: aQ (some a) :: st) h = gA h a i (ex cal k_J_fill 14 (ls) (st) (sa h a (upf (ai h a) (wr i) v))) := e_ias cal rfl h3
theorem u_J_fill_14 (hx : aNl x1 = true) : ex cal k_J_fill 14 (x0 :: x1 :: aI v :: ls) (st) h = ex cal k_J_fill 17 (x0 :: x1 :: aI (v + 1) :: ls) (st) h := e_inc (ls := x0 :: x1 :: aI v :: ls) (k := 2) rfl rfl hx
theorem u_J_fill_17 : ex cal k_J_fill 17 (ls) (st) h = ex cal k_J_fill 5 (ls) (st) h := ex_st cal (s := s_go 5) rfl rfl
theorem u_J_fill_20 : ex cal k_J_fill 20 (ls) ([]) h = some (none, h) := e_ret0 cal rfl
theorem n_J_fill (d : Nat) : ev (d + 1) M_J_fill [aQ r0, aI z1] h = ex (ev d) k_J_fill 0 [aQ r0, aI z1, aU, aU] [] h := rfl
end UU
