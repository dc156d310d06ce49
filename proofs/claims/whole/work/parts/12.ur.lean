/-! what each instruction does, as an equation: printed by wip/whole/gen/gen.py -/
section UU
variable {cal : Nat → List aV → aH → aR} {ls st : List aV} {h : aH} {y y2 x0 x1 x2 x3 x4 x5 x6 x7 x8 x9 x10 x11 x12 x13 x14 x15 x16 x17 x18 x19 : aV} {a b : Nat} {i j c v z0 z1 z2 z3 z4 z5 z6 z7 : Int} {r r0 r1 r2 r3 r4 r5 r6 r7 : Option Nat}

theorem u_R_init_0 : ex cal k_R_init 0 (aQ r :: ls) (st) h = ex cal k_R_init 1 (aQ r :: ls) (aQ r :: st) h := ex_st cal (s := s_ald 0 1) rfl rfl
theorem u_R_init_1 (hl : Nat.ble st.length 4 = true) : ex cal k_R_init 1 (ls) (aQ (some a) :: st) h = ex cal k_R_init 4 (ls) (st) h := e_oi cal rfl (Nat.le_of_ble_eq_true hl)
theorem u_R_init_4 : ex cal k_R_init 4 (aQ r :: ls) (st) h = ex cal k_R_init 5 (aQ r :: ls) (aQ r :: st) h := ex_st cal (s := s_ald 0 5) rfl rfl
theorem u_R_init_5 : ex cal k_R_init 5 (ls) (st) h = ex cal k_R_init 8 (ls) (aI 3240 :: st) h := e_push cal rfl
theorem u_R_init_8 (h1 : 0 ≤ i) (h2 : i ≤ 100000) : ex cal k_R_init 8 (ls) (aI i :: st) h = ex cal k_R_init 10 (ls) (aQ (some (aSz h)) :: st) (aNew h (.inr (.inl (i.toNat, fun _ => 0))) i.toNat) := e_nai cal rfl h1 h2
theorem u_R_init_10 : ex cal k_R_init 10 (ls) (aQ r :: aQ (some a) :: st) h = gO h a 10 (ex cal k_R_init 13 (ls) (st) (pf h a 0 (aQ r))) := e_pf1 rfl rfl
theorem u_R_init_13 : ex cal k_R_init 13 (aQ r :: ls) (st) h = ex cal k_R_init 14 (aQ r :: ls) (aQ r :: st) h := ex_st cal (s := s_ald 0 14) rfl rfl
theorem u_R_init_14 : ex cal k_R_init 14 (ls) (st) h = ex cal k_R_init 16 (ls) (aI 6 :: st) h := e_push cal rfl
theorem u_R_init_16 (h1 : 0 ≤ i) (h2 : i ≤ 100000) : ex cal k_R_init 16 (ls) (aI i :: st) h = ex cal k_R_init 18 (ls) (aQ (some (aSz h)) :: st) (aNew h (.inr (.inl (i.toNat, fun _ => 0))) i.toNat) := e_nai cal rfl h1 h2
theorem u_R_init_18 : ex cal k_R_init 18 (ls) (aQ r :: aQ (some a) :: st) h = gO h a 10 (ex cal k_R_init 21 (ls) (st) (pf h a 1 (aQ r))) := e_pf1 rfl rfl
theorem u_R_init_21 : ex cal k_R_init 21 (aQ r :: ls) (st) h = ex cal k_R_init 22 (aQ r :: ls) (aQ r :: st) h := ex_st cal (s := s_ald 0 22) rfl rfl
theorem u_R_init_22 : ex cal k_R_init 22 (ls) (st) h = ex cal k_R_init 25 (ls) (aI 32400 :: st) h := e_push cal rfl
theorem u_R_init_25 (h1 : 0 ≤ i) (h2 : i ≤ 100000) : ex cal k_R_init 25 (ls) (aI i :: st) h = ex cal k_R_init 27 (ls) (aQ (some (aSz h)) :: st) (aNew h (.inr (.inl (i.toNat, fun _ => 0))) i.toNat) := e_nai cal rfl h1 h2
theorem u_R_init_27 : ex cal k_R_init 27 (ls) (aQ r :: aQ (some a) :: st) h = gO h a 10 (ex cal k_R_init 30 (ls) (st) (pf h a 2 (aQ r))) := e_pf1 rfl rfl
theorem u_R_init_30 : ex cal k_R_init 30 (aQ r :: ls) (st) h = ex cal k_R_init 31 (aQ r :: ls) (aQ r :: st) h := ex_st cal (s := s_ald 0 31) rfl rfl
theorem u_R_init_31 : ex cal k_R_init 31 (ls) (st) h = ex cal k_R_init 33 (ls) (aI 60 :: st) h := e_push cal rfl
theorem u_R_init_33 (h1 : 0 ≤ i) (h2 : i ≤ 100000) : ex cal k_R_init 33 (ls) (aI i :: st) h = ex cal k_R_init 35 (ls) (aQ (some (aSz h)) :: st) (aNew h (.inr (.inl (i.toNat, fun _ => 0))) i.toNat) := e_nai cal rfl h1 h2
theorem u_R_init_35 : ex cal k_R_init 35 (ls) (aQ r :: aQ (some a) :: st) h = gO h a 10 (ex cal k_R_init 38 (ls) (st) (pf h a 3 (aQ r))) := e_pf1 rfl rfl
theorem u_R_init_38 : ex cal k_R_init 38 (aQ r :: ls) (st) h = ex cal k_R_init 39 (aQ r :: ls) (aQ r :: st) h := ex_st cal (s := s_ald 0 39) rfl rfl
theorem u_R_init_39 : ex cal k_R_init 39 (ls) (st) h = ex cal k_R_init 42 (ls) (aI 540 :: st) h := e_push cal rfl
theorem u_R_init_42 (h1 : 0 ≤ i) (h2 : i ≤ 100000) : ex cal k_R_init 42 (ls) (aI i :: st) h = ex cal k_R_init 44 (ls) (aQ (some (aSz h)) :: st) (aNew h (.inr (.inl (i.toNat, fun _ => 0))) i.toNat) := e_nai cal rfl h1 h2
theorem u_R_init_44 : ex cal k_R_init 44 (ls) (aQ r :: aQ (some a) :: st) h = gO h a 10 (ex cal k_R_init 47 (ls) (st) (pf h a 4 (aQ r))) := e_pf1 rfl rfl
theorem u_R_init_47 : ex cal k_R_init 47 (aQ r :: ls) (st) h = ex cal k_R_init 48 (aQ r :: ls) (aQ r :: st) h := ex_st cal (s := s_ald 0 48) rfl rfl
theorem u_R_init_48 : ex cal k_R_init 48 (ls) (st) h = ex cal k_R_init 50 (ls) (aI 60 :: st) h := e_push cal rfl
theorem u_R_init_50 (h1 : 0 ≤ i) (h2 : i ≤ 100000) : ex cal k_R_init 50 (ls) (aI i :: st) h = ex cal k_R_init 52 (ls) (aQ (some (aSz h)) :: st) (aNew h (.inr (.inl (i.toNat, fun _ => 0))) i.toNat) := e_nai cal rfl h1 h2
theorem u_R_init_52 : ex cal k_R_init 52 (ls) (aQ r :: aQ (some a) :: st) h = gO h a 10 (ex cal k_R_init 55 (ls) (st) (pf h a 5 (aQ r))) := e_pf1 rfl rfl
theorem u_R_init_55 : ex cal k_R_init 55 (aQ r :: ls) (st) h = ex cal k_R_init 56 (aQ r :: ls) (aQ r :: st) h := ex_st cal (s := s_ald 0 56) rfl rfl
theorem u_R_init_56 : ex cal k_R_init 56 (ls) (st) h = ex cal k_R_init 58 (ls) (aI 60 :: st) h := e_push cal rfl
theorem u_R_init_58 (h1 : 0 ≤ i) (h2 : i ≤ 100000) : ex cal k_R_init 58 (ls) (aI i :: st) h = ex cal k_R_init 60 (ls) (aQ (some (aSz h)) :: st) (aNew h (.inr (.inl (i.toNat, fun _ => 0))) i.toNat) := e_nai cal rfl h1 h2
theorem u_R_init_60 : ex cal k_R_init 60 (ls) (aQ r :: aQ (some a) :: st) h = gO h a 10 (ex cal k_R_init 63 (ls) (st) (pf h a 6 (aQ r))) := e_pf1 rfl rfl
theorem u_R_init_63 : ex cal k_R_init 63 (aQ r :: ls) (st) h = ex cal k_R_init 64 (aQ r :: ls) (aQ r :: st) h := ex_st cal (s := s_ald 0 64) rfl rfl
theorem u_R_init_64 : ex cal k_R_init 64 (ls) (st) h = ex cal k_R_init 66 (ls) (aI 60 :: st) h := e_push cal rfl
theorem u_R_init_66 (h1 : 0 ≤ i) (h2 : i ≤ 100000) : ex cal k_R_init 66 (ls) (aI i :: st) h = ex cal k_R_init 68 (ls) (aQ (some (aSz h)) :: st) (aNew h (.inr (.inl (i.toNat, fun _ => 0))) i.toNat) := e_nai cal rfl h1 h2
theorem u_R_init_68 : ex cal k_R_init 68 (ls) (aQ r :: aQ (some a) :: st) h = gO h a 10 (ex cal k_R_init 71 (ls) (st) (pf h a 7 (aQ r))) := e_pf1 rfl rfl
theorem u_R_init_71 : ex cal k_R_init 71 (aQ r :: ls) (st) h = ex cal k_R_init 72 (aQ r :: ls) (aQ r :: st) h := ex_st cal (s := s_ald 0 72) rfl rfl
theorem u_R_init_72 : ex cal k_R_init 72 (ls) (st) h = ex cal k_R_init 74 (ls) (aI 60 :: st) h := e_push cal rfl
theorem u_R_init_74 (h1 : 0 ≤ i) (h2 : i ≤ 100000) : ex cal k_R_init 74 (ls) (aI i :: st) h = ex cal k_R_init 76 (ls) (aQ (some (aSz h)) :: st) (aNew h (.inr (.inl (i.toNat, fun _ => 0))) i.toNat) := e_nai cal rfl h1 h2
theorem u_R_init_76 : ex cal k_R_init 76 (ls) (aQ r :: aQ (some a) :: st) h = gO h a 10 (ex cal k_R_init 79 (ls) (st) (pf h a 8 (aQ r))) := e_pf1 rfl rfl
theorem u_R_init_79 : ex cal k_R_init 79 (aQ r :: ls) (st) h = ex cal k_R_init 80 (aQ r :: ls) (aQ r :: st) h := ex_st cal (s := s_ald 0 80) rfl rfl
theorem u_R_init_80 : ex cal k_R_init 80 (ls) (st) h = ex cal k_R_init 82 (ls) (aI 60 :: st) h := e_push cal rfl
theorem u_R_init_82 (h1 : 0 ≤ i) (h2 : i ≤ 100000) : ex cal k_R_init 82 (ls) (aI i :: st) h = ex cal k_R_init 84 (ls) (aQ (some (aSz h)) :: st) (aNew h (.inr (.inl (i.toNat, fun _ => 0))) i.toNat) := e_nai cal rfl h1 h2
theorem u_R_init_84 : ex cal k_R_init 84 (ls) (aQ r :: aQ (some a) :: st) h = gO h a 10 (ex cal k_R_init 87 (ls) (st) (pf h a 9 (aQ r))) := e_pf1 rfl rfl
theorem u_R_init_87 : ex cal k_R_init 87 (aQ r :: ls) (st) h = ex cal k_R_init 88 (aQ r :: ls) (aQ r :: st) h := ex_st cal (s := s_ald 0 88) rfl rfl
theorem u_R_init_88 : ex cal k_R_init 88 (ls) (st) h = ex cal k_R_init 90 (ls) (aI 60 :: st) h := e_push cal rfl
theorem u_R_init_90 (h1 : 0 ≤ i) (h2 : i ≤ 100000) : ex cal k_R_init 90 (ls) (aI i :: st) h = ex cal k_R_init 92 (ls) (aQ (some (aSz h)) :: st) (aNew h (.inr (.inl (i.toNat, fun _ => 0))) i.toNat) := e_nai cal rfl h1 h2
theorem u_R_init_92 : ex cal k_R_init 92 (ls) (aQ r :: aQ (some a) :: st) h = gO h a 10 (ex cal k_R_init 95 (ls) (st) (pf h a 10 (aQ r))) := e_pf1 rfl rfl
theorem u_R_init_95 : ex cal k_R_init 95 (aQ r :: ls) (st) h = ex cal k_R_init 96 (aQ r :: ls) (aQ r :: st) h := ex_st cal (s := s_ald 0 96) rfl rfl
theorem u_R_init_96 : ex cal k_R_init 96 (ls) (st) h = ex cal k_R_init 98 (ls) (aI 60 :: st) h := e_push cal rfl
theorem u_R_init_98 (h1 : 0 ≤ i) (h2 : i ≤ 100000) : ex cal k_R_init 98 (ls) (aI i :: st) h = ex cal k_R_init 100 (ls) (aQ (some (aSz h)) :: st) (aNew h (.inr (.inl (i.toNat, fun _ => 0))) i.toNat) := e_nai cal rfl h1 h2
theorem u_R_init_100 : ex cal k_R_init 100 (ls) (aQ r :: aQ (some a) :: st) h = gO h a 10 (ex cal k_R_init 103 (ls) (st) (pf h a 11 (aQ r))) := e_pf1 rfl rfl
theorem u_R_init_103 : ex cal k_R_init 103 (aQ r :: ls) (st) h = ex cal k_R_init 104 (aQ r :: ls) (aQ r :: st) h := ex_st cal (s := s_ald 0 104) rfl rfl
theorem u_R_init_104 : ex cal k_R_init 104 (ls) (st) h = ex cal k_R_init 106 (ls) (aI 8 :: st) h := e_push cal rfl
theorem u_R_init_106 (h1 : 0 ≤ i) (h2 : i ≤ 100000) : ex cal k_R_init 106 (ls) (aI i :: st) h = ex cal k_R_init 108 (ls) (aQ (some (aSz h)) :: st) (aNew h (.inr (.inl (i.toNat, fun _ => 0))) i.toNat) := e_nai cal rfl h1 h2
theorem u_R_init_108 : ex cal k_R_init 108 (ls) (aQ r :: aQ (some a) :: st) h = gO h a 10 (ex cal k_R_init 111 (ls) (st) (pf h a 12 (aQ r))) := e_pf1 rfl rfl
theorem u_R_init_111 : ex cal k_R_init 111 (aQ r :: ls) (st) h = ex cal k_R_init 112 (aQ r :: ls) (aQ r :: st) h := ex_st cal (s := s_ald 0 112) rfl rfl
theorem u_R_init_112 : ex cal k_R_init 112 (ls) (st) h = ex cal k_R_init 114 (ls) (aI 20 :: st) h := e_push cal rfl
theorem u_R_init_114 (h1 : 0 ≤ i) (h2 : i ≤ 100000) : ex cal k_R_init 114 (ls) (aI i :: st) h = ex cal k_R_init 116 (ls) (aQ (some (aSz h)) :: st) (aNew h (.inr (.inl (i.toNat, fun _ => 0))) i.toNat) := e_nai cal rfl h1 h2
theorem u_R_init_116 : ex cal k_R_init 116 (ls) (aQ r :: aQ (some a) :: st) h = gO h a 10 (ex cal k_R_init 119 (ls) (st) (pf h a 13 (aQ r))) := e_pf1 rfl rfl
theorem u_R_init_119 : ex cal k_R_init 119 (aQ r :: ls) (st) h = ex cal k_R_init 120 (aQ r :: ls) (aQ r :: st) h := ex_st cal (s := s_ald 0 120) rfl rfl
theorem u_R_init_120 : ex cal k_R_init 120 (ls) (st) h = ex cal k_R_init 122 (ls) (aI 6 :: st) h := e_push cal rfl
theorem u_R_init_122 (h1 : 0 ≤ i) (h2 : i ≤ 100000) : ex cal k_R_init 122 (ls) (aI i :: st) h = ex cal k_R_init 124 (ls) (aQ (some (aSz h)) :: st) (aNew h (.inr (.inl (i.toNat, fun _ => 0))) i.toNat) := e_nai cal rfl h1 h2
theorem u_R_init_124 (hx : aNl y = true) : ex cal k_R_init 124 (ls) (y :: st) h = ex cal k_R_init 125 (ls) (y :: y :: st) h := e_dup rfl hx
theorem u_R_init_125 : ex cal k_R_init 125 (ls) (st) h = ex cal k_R_init 126 (ls) (aI 0 :: st) h := e_push cal rfl
theorem u_R_init_126 : ex cal k_R_init 126 (ls) (st) h = ex cal k_R_init 127 (ls) (aI 0 :: st) h := e_push cal rfl
theorem u_R_init_127 (h3 : 3 ≤ a) : ex cal k_R_init 127 (ls) (aI v :: aI i :: aQ (some a) :: st) h = gA h a i (ex cal k_R_init 128 (ls) (st) (sa h a (upf (ai h a) (wr i) v))) := e_ias cal rfl h3
theorem u_R_init_128 (hx : aNl y = true) : ex cal k_R_init 128 (ls) (y :: st) h = ex cal k_R_init 129 (ls) (y :: y :: st) h := e_dup rfl hx
theorem u_R_init_129 : ex cal k_R_init 129 (ls) (st) h = ex cal k_R_init 130 (ls) (aI 1 :: st) h := e_push cal rfl
theorem u_R_init_130 : ex cal k_R_init 130 (ls) (st) h = ex cal k_R_init 131 (ls) (aI 0 :: st) h := e_push cal rfl
theorem u_R_init_131 (h3 : 3 ≤ a) : ex cal k_R_init 131 (ls) (aI v :: aI i :: aQ (some a) :: st) h = gA h a i (ex cal k_R_init 132 (ls) (st) (sa h a (upf (ai h a) (wr i) v))) := e_ias cal rfl h3
theorem u_R_init_132 (hx : aNl y = true) : ex cal k_R_init 132 (ls) (y :: st) h = ex cal k_R_init 133 (ls) (y :: y :: st) h := e_dup rfl hx
theorem u_R_init_133 : ex cal k_R_init 133 (ls) (st) h = ex cal k_R_init 134 (ls) (aI 2 :: st) h := e_push cal rfl
theorem u_R_init_134 : ex cal k_R_init 134 (ls) (st) h = ex cal k_R_init 135 (ls) (aI 0 :: st) h := e_push cal rfl
theorem u_R_init_135 (h3 : 3 ≤ a) : ex cal k_R_init 135 (ls) (aI v :: aI i :: aQ (some a) :: st) h = gA h a i (ex cal k_R_init 136 (ls) (st) (sa h a (upf (ai h a) (wr i) v))) := e_ias cal rfl h3
theorem u_R_init_136 (hx : aNl y = true) : ex cal k_R_init 136 (ls) (y :: st) h = ex cal k_R_init 137 (ls) (y :: y :: st) h := e_dup rfl hx
theorem u_R_init_137 : ex cal k_R_init 137 (ls) (st) h = ex cal k_R_init 138 (ls) (aI 3 :: st) h := e_push cal rfl
theorem u_R_init_138 : ex cal k_R_init 138 (ls) (st) h = ex cal k_R_init 139 (ls) (aI 0 :: st) h := e_push cal rfl
theorem u_R_init_139 (h3 : 3 ≤ a) : ex cal k_R_init 139 (ls) (aI v :: aI i :: aQ (some a) :: st) h = gA h a i (ex cal k_R_init 140 (ls) (st) (sa h a (upf (ai h a) (wr i) v))) := e_ias cal rfl h3
theorem u_R_init_140 (hx : aNl y = true) : ex cal k_R_init 140 (ls) (y :: st) h = ex cal k_R_init 141 (ls) (y :: y :: st) h := e_dup rfl hx
theorem u_R_init_141 : ex cal k_R_init 141 (ls) (st) h = ex cal k_R_init 142 (ls) (aI 4 :: st) h := e_push cal rfl
theorem u_R_init_142 : ex cal k_R_init 142 (ls) (st) h = ex cal k_R_init 143 (ls) (aI 0 :: st) h := e_push cal rfl
theorem u_R_init_143 (h3 : 3 ≤ a) : ex cal k_R_init 143 (ls) (aI v :: aI i :: aQ (some a) :: st) h = gA h a i (ex cal k_R_init 144 (ls) (st) (sa h a (upf (ai h a) (wr i) v))) := e_ias cal rfl h3
theorem u_R_init_144 (hx : aNl y = true) : ex cal k_R_init 144 (ls) (y :: st) h = ex cal k_R_init 145 (ls) (y :: y :: st) h := e_dup rfl hx
theorem u_R_init_145 : ex cal k_R_init 145 (ls) (st) h = ex cal k_R_init 146 (ls) (aI 5 :: st) h := e_push cal rfl
theorem u_R_init_146 : ex cal k_R_init 146 (ls) (st) h = ex cal k_R_init 148 (ls) (aI 50 :: st) h := e_push cal rfl
theorem u_R_init_148 (h3 : 3 ≤ a) : ex cal k_R_init 148 (ls) (aI v :: aI i :: aQ (some a) :: st) h = gA h a i (ex cal k_R_init 149 (ls) (st) (sa h a (upf (ai h a) (wr i) v))) := e_ias cal rfl h3
theorem u_R_init_149 : ex cal k_R_init 149 (ls) (aQ r :: aQ (some a) :: st) h = gO h a 10 (ex cal k_R_init 152 (ls) (st) (pf h a 14 (aQ r))) := e_pf1 rfl rfl
theorem u_R_init_152 : ex cal k_R_init 152 (aQ r :: ls) (st) h = ex cal k_R_init 153 (aQ r :: ls) (aQ r :: st) h := ex_st cal (s := s_ald 0 153) rfl rfl
theorem u_R_init_153 : ex cal k_R_init 153 (ls) (st) h = ex cal k_R_init 155 (ls) (aI 36800 :: st) h := e_push cal rfl
theorem u_R_init_155 (h1 : 0 ≤ i) (h2 : i ≤ 100000) : ex cal k_R_init 155 (ls) (aI i :: st) h = ex cal k_R_init 157 (ls) (aQ (some (aSz h)) :: st) (aNew h (.inr (.inl (i.toNat, fun _ => 0))) i.toNat) := e_nai cal rfl h1 h2
theorem u_R_init_157 : ex cal k_R_init 157 (ls) (aQ r :: aQ (some a) :: st) h = gO h a 10 (ex cal k_R_init 160 (ls) (st) (pf h a 15 (aQ r))) := e_pf1 rfl rfl
theorem u_R_init_160 : ex cal k_R_init 160 (aQ r :: ls) (st) h = ex cal k_R_init 161 (aQ r :: ls) (aQ r :: st) h := ex_st cal (s := s_ald 0 161) rfl rfl
theorem u_R_init_161 : ex cal k_R_init 161 (ls) (st) h = ex cal k_R_init 164 (ls) (aI 441 :: st) h := e_push cal rfl
theorem u_R_init_164 (h1 : 0 ≤ i) (h2 : i ≤ 100000) : ex cal k_R_init 164 (ls) (aI i :: st) h = ex cal k_R_init 166 (ls) (aQ (some (aSz h)) :: st) (aNew h (.inr (.inl (i.toNat, fun _ => 0))) i.toNat) := e_nai cal rfl h1 h2
theorem u_R_init_166 : ex cal k_R_init 166 (ls) (aQ r :: aQ (some a) :: st) h = gO h a 10 (ex cal k_R_init 169 (ls) (st) (pf h a 19 (aQ r))) := e_pf1 rfl rfl
theorem u_R_init_169 : ex cal k_R_init 169 (aQ r :: ls) (st) h = ex cal k_R_init 170 (aQ r :: ls) (aQ r :: st) h := ex_st cal (s := s_ald 0 170) rfl rfl
theorem u_R_init_170 : ex cal k_R_init 170 (ls) (st) h = ex cal k_R_init 172 (ls) (aI 20 :: st) h := e_push cal rfl
theorem u_R_init_172 (h1 : 0 ≤ i) (h2 : i ≤ 100000) : ex cal k_R_init 172 (ls) (aI i :: st) h = ex cal k_R_init 174 (ls) (aQ (some (aSz h)) :: st) (aNew h (.inr (.inl (i.toNat, fun _ => 0))) i.toNat) := e_nai cal rfl h1 h2
theorem u_R_init_174 : ex cal k_R_init 174 (ls) (aQ r :: aQ (some a) :: st) h = gO h a 10 (ex cal k_R_init 177 (ls) (st) (pf h a 20 (aQ r))) := e_pf1 rfl rfl
theorem u_R_init_177 : ex cal k_R_init 177 (aQ r :: ls) (st) h = ex cal k_R_init 178 (aQ r :: ls) (aQ r :: st) h := ex_st cal (s := s_ald 0 178) rfl rfl
theorem u_R_init_178 : ex cal k_R_init 178 (ls) (st) h = ex cal k_R_init 180 (ls) (aI 6 :: st) h := e_push cal rfl
theorem u_R_init_180 (h1 : 0 ≤ i) (h2 : i ≤ 100000) : ex cal k_R_init 180 (ls) (aI i :: st) h = ex cal k_R_init 182 (ls) (aQ (some (aSz h)) :: st) (aNew h (.inr (.inl (i.toNat, fun _ => 0))) i.toNat) := e_nai cal rfl h1 h2
theorem u_R_init_182 : ex cal k_R_init 182 (ls) (aQ r :: aQ (some a) :: st) h = gO h a 10 (ex cal k_R_init 185 (ls) (st) (pf h a 22 (aQ r))) := e_pf1 rfl rfl
theorem u_R_init_185 : ex cal k_R_init 185 (aQ r :: ls) (st) h = ex cal k_R_init 186 (aQ r :: ls) (aQ r :: st) h := ex_st cal (s := s_ald 0 186) rfl rfl
theorem u_R_init_186 : ex cal k_R_init 186 (ls) (st) h = ex cal k_R_init 188 (ls) (aI 36864 :: st) h := e_push cal rfl
theorem u_R_init_188 (h1 : 0 ≤ i) (h2 : i ≤ 100000) : ex cal k_R_init 188 (ls) (aI i :: st) h = ex cal k_R_init 190 (ls) (aQ (some (aSz h)) :: st) (aNew h (.inr (.inl (i.toNat, fun _ => 0))) i.toNat) := e_nai cal rfl h1 h2
theorem u_R_init_190 : ex cal k_R_init 190 (ls) (aQ r :: aQ (some a) :: st) h = gO h a 10 (ex cal k_R_init 193 (ls) (st) (pf h a 24 (aQ r))) := e_pf1 rfl rfl
theorem u_R_init_193 : ex cal k_R_init 193 (aQ r :: ls) (st) h = ex cal k_R_init 194 (aQ r :: ls) (aQ r :: st) h := ex_st cal (s := s_ald 0 194) rfl rfl
theorem u_R_init_194 : ex cal k_R_init 194 (ls) (st) h = ex cal k_R_init 196 (ls) (aI 48 :: st) h := e_push cal rfl
theorem u_R_init_196 (h1 : 0 ≤ i) (h2 : i ≤ 100000) : ex cal k_R_init 196 (ls) (aI i :: st) h = ex cal k_R_init 198 (ls) (aQ (some (aSz h)) :: st) (aNew h (.inr (.inl (i.toNat, fun _ => 0))) i.toNat) := e_nai cal rfl h1 h2
theorem u_R_init_198 : ex cal k_R_init 198 (ls) (aQ r :: aQ (some a) :: st) h = gO h a 10 (ex cal k_R_init 201 (ls) (st) (pf h a 25 (aQ r))) := e_pf1 rfl rfl
theorem u_R_init_201 : ex cal k_R_init 201 (aQ r :: ls) (st) h = ex cal k_R_init 202 (aQ r :: ls) (aQ r :: st) h := ex_st cal (s := s_ald 0 202) rfl rfl
theorem u_R_init_202 : ex cal k_R_init 202 (ls) (st) h = ex cal k_R_init 204 (ls) (aI 6 :: st) h := e_push cal rfl
theorem u_R_init_204 (h1 : 0 ≤ i) (h2 : i ≤ 100000) : ex cal k_R_init 204 (ls) (aI i :: st) h = ex cal k_R_init 206 (ls) (aQ (some (aSz h)) :: st) (aNew h (.inr (.inl (i.toNat, fun _ => 0))) i.toNat) := e_nai cal rfl h1 h2
theorem u_R_init_206 (hx : aNl y = true) : ex cal k_R_init 206 (ls) (y :: st) h = ex cal k_R_init 207 (ls) (y :: y :: st) h := e_dup rfl hx
theorem u_R_init_207 : ex cal k_R_init 207 (ls) (st) h = ex cal k_R_init 208 (ls) (aI 0 :: st) h := e_push cal rfl
theorem u_R_init_208 : ex cal k_R_init 208 (ls) (st) h = ex cal k_R_init 209 (ls) (aI 1 :: st) h := e_push cal rfl
theorem u_R_init_209 (h3 : 3 ≤ a) : ex cal k_R_init 209 (ls) (aI v :: aI i :: aQ (some a) :: st) h = gA h a i (ex cal k_R_init 210 (ls) (st) (sa h a (upf (ai h a) (wr i) v))) := e_ias cal rfl h3
theorem u_R_init_210 (hx : aNl y = true) : ex cal k_R_init 210 (ls) (y :: st) h = ex cal k_R_init 211 (ls) (y :: y :: st) h := e_dup rfl hx
theorem u_R_init_211 : ex cal k_R_init 211 (ls) (st) h = ex cal k_R_init 212 (ls) (aI 1 :: st) h := e_push cal rfl
theorem u_R_init_212 : ex cal k_R_init 212 (ls) (st) h = ex cal k_R_init 213 (ls) (aI 4 :: st) h := e_push cal rfl
theorem u_R_init_213 (h3 : 3 ≤ a) : ex cal k_R_init 213 (ls) (aI v :: aI i :: aQ (some a) :: st) h = gA h a i (ex cal k_R_init 214 (ls) (st) (sa h a (upf (ai h a) (wr i) v))) := e_ias cal rfl h3
theorem u_R_init_214 (hx : aNl y = true) : ex cal k_R_init 214 (ls) (y :: st) h = ex cal k_R_init 215 (ls) (y :: y :: st) h := e_dup rfl hx
theorem u_R_init_215 : ex cal k_R_init 215 (ls) (st) h = ex cal k_R_init 216 (ls) (aI 2 :: st) h := e_push cal rfl
theorem u_R_init_216 : ex cal k_R_init 216 (ls) (st) h = ex cal k_R_init 218 (ls) (aI 16 :: st) h := e_push cal rfl
theorem u_R_init_218 (h3 : 3 ≤ a) : ex cal k_R_init 218 (ls) (aI v :: aI i :: aQ (some a) :: st) h = gA h a i (ex cal k_R_init 219 (ls) (st) (sa h a (upf (ai h a) (wr i) v))) := e_ias cal rfl h3
theorem u_R_init_219 (hx : aNl y = true) : ex cal k_R_init 219 (ls) (y :: st) h = ex cal k_R_init 220 (ls) (y :: y :: st) h := e_dup rfl hx
theorem u_R_init_220 : ex cal k_R_init 220 (ls) (st) h = ex cal k_R_init 221 (ls) (aI 3 :: st) h := e_push cal rfl
theorem u_R_init_221 : ex cal k_R_init 221 (ls) (st) h = ex cal k_R_init 223 (ls) (aI 64 :: st) h := e_push cal rfl
theorem u_R_init_223 (h3 : 3 ≤ a) : ex cal k_R_init 223 (ls) (aI v :: aI i :: aQ (some a) :: st) h = gA h a i (ex cal k_R_init 224 (ls) (st) (sa h a (upf (ai h a) (wr i) v))) := e_ias cal rfl h3
theorem u_R_init_224 (hx : aNl y = true) : ex cal k_R_init 224 (ls) (y :: st) h = ex cal k_R_init 225 (ls) (y :: y :: st) h := e_dup rfl hx
theorem u_R_init_225 : ex cal k_R_init 225 (ls) (st) h = ex cal k_R_init 226 (ls) (aI 4 :: st) h := e_push cal rfl
theorem u_R_init_226 : ex cal k_R_init 226 (ls) (st) h = ex cal k_R_init 229 (ls) (aI 256 :: st) h := e_push cal rfl
theorem u_R_init_229 (h3 : 3 ≤ a) : ex cal k_R_init 229 (ls) (aI v :: aI i :: aQ (some a) :: st) h = gA h a i (ex cal k_R_init 230 (ls) (st) (sa h a (upf (ai h a) (wr i) v))) := e_ias cal rfl h3
theorem u_R_init_230 (hx : aNl y = true) : ex cal k_R_init 230 (ls) (y :: st) h = ex cal k_R_init 231 (ls) (y :: y :: st) h := e_dup rfl hx
theorem u_R_init_231 : ex cal k_R_init 231 (ls) (st) h = ex cal k_R_init 232 (ls) (aI 5 :: st) h := e_push cal rfl
theorem u_R_init_232 : ex cal k_R_init 232 (ls) (st) h = ex cal k_R_init 235 (ls) (aI 1024 :: st) h := e_push cal rfl
theorem u_R_init_235 (h3 : 3 ≤ a) : ex cal k_R_init 235 (ls) (aI v :: aI i :: aQ (some a) :: st) h = gA h a i (ex cal k_R_init 236 (ls) (st) (sa h a (upf (ai h a) (wr i) v))) := e_ias cal rfl h3
theorem u_R_init_236 : ex cal k_R_init 236 (ls) (aQ r :: aQ (some a) :: st) h = gO h a 10 (ex cal k_R_init 239 (ls) (st) (pf h a 26 (aQ r))) := e_pf1 rfl rfl
theorem u_R_init_239 : ex cal k_R_init 239 (aQ r :: ls) (st) h = ex cal k_R_init 240 (aQ r :: ls) (aQ r :: st) h := ex_st cal (s := s_ald 0 240) rfl rfl
theorem u_R_init_240 : ex cal k_R_init 240 (ls) (st) h = ex cal k_R_init 242 (ls) (aI 50 :: st) h := e_push cal rfl
theorem u_R_init_242 (h1 : 0 ≤ i) (h2 : i ≤ 100000) : ex cal k_R_init 242 (ls) (aI i :: st) h = ex cal k_R_init 244 (ls) (aQ (some (aSz h)) :: st) (aNew h (.inr (.inl (i.toNat, fun _ => 0))) i.toNat) := e_nai cal rfl h1 h2
theorem u_R_init_244 : ex cal k_R_init 244 (ls) (aQ r :: aQ (some a) :: st) h = gO h a 10 (ex cal k_R_init 247 (ls) (st) (pf h a 27 (aQ r))) := e_pf1 rfl rfl
theorem u_R_init_247 : ex cal k_R_init 247 (aQ r :: ls) (st) h = ex cal k_R_init 248 (aQ r :: ls) (aQ r :: st) h := ex_st cal (s := s_ald 0 248) rfl rfl
theorem u_R_init_248 : ex cal k_R_init 248 (ls) (st) h = ex cal k_R_init 249 (ls) (aI 4 :: st) h := e_push cal rfl
theorem u_R_init_249 (h1 : 0 ≤ i) (h2 : i ≤ 100000) : ex cal k_R_init 249 (ls) (aI i :: st) h = ex cal k_R_init 251 (ls) (aQ (some (aSz h)) :: st) (aNew h (.inr (.inl (i.toNat, fun _ => 0))) i.toNat) := e_nai cal rfl h1 h2
theorem u_R_init_251 : ex cal k_R_init 251 (ls) (aQ r :: aQ (some a) :: st) h = gO h a 10 (ex cal k_R_init 254 (ls) (st) (pf h a 29 (aQ r))) := e_pf1 rfl rfl
theorem u_R_init_254 : ex cal k_R_init 254 (aQ r :: ls) (st) h = ex cal k_R_init 255 (aQ r :: ls) (aQ r :: st) h := ex_st cal (s := s_ald 0 255) rfl rfl
theorem u_R_init_255 : ex cal k_R_init 255 (ls) (st) h = ex cal k_R_init 256 (ls) (aI 4 :: st) h := e_push cal rfl
theorem u_R_init_256 (h1 : 0 ≤ i) (h2 : i ≤ 100000) : ex cal k_R_init 256 (ls) (aI i :: st) h = ex cal k_R_init 258 (ls) (aQ (some (aSz h)) :: st) (aNew h (.inr (.inl (i.toNat, fun _ => 0))) i.toNat) := e_nai cal rfl h1 h2
theorem u_R_init_258 : ex cal k_R_init 258 (ls) (aQ r :: aQ (some a) :: st) h = gO h a 10 (ex cal k_R_init 261 (ls) (st) (pf h a 30 (aQ r))) := e_pf1 rfl rfl
theorem u_R_init_261 : ex cal k_R_init 261 (aQ r :: ls) (st) h = ex cal k_R_init 262 (aQ r :: ls) (aQ r :: st) h := ex_st cal (s := s_ald 0 262) rfl rfl
theorem u_R_init_262 : ex cal k_R_init 262 (ls) (st) h = ex cal k_R_init 265 (ls) (aI 160 :: st) h := e_push cal rfl
theorem u_R_init_265 (h1 : 0 ≤ i) (h2 : i ≤ 100000) : ex cal k_R_init 265 (ls) (aI i :: st) h = ex cal k_R_init 267 (ls) (aQ (some (aSz h)) :: st) (aNew h (.inr (.inl (i.toNat, fun _ => 0))) i.toNat) := e_nai cal rfl h1 h2
theorem u_R_init_267 : ex cal k_R_init 267 (ls) (aQ r :: aQ (some a) :: st) h = gO h a 10 (ex cal k_R_init 270 (ls) (st) (pf h a 31 (aQ r))) := e_pf1 rfl rfl
theorem u_R_init_270 : ex cal k_R_init 270 (ls) ([]) h = some (none, h) := e_ret0 cal rfl
theorem n_R_init (d : Nat) : ev (d + 1) M_R_init [aQ (some a)] h = ex (ev d) k_R_init 0 [aQ (some a)] [] h := rfl
theorem u_R_isIn_0 : ex cal k_R_isIn 0 (aL v :: ls) (st) h = ex cal k_R_isIn 1 (aL v :: ls) (aL v :: st) h := ex_st cal (s := s_lld 0 1) rfl rfl
theorem u_R_isIn_1 : ex cal k_R_isIn 1 (x0 :: x1 :: aL v :: ls) (st) h = ex cal k_R_isIn 2 (x0 :: x1 :: aL v :: ls) (aL v :: st) h := ex_st cal (s := s_lld 2 2) rfl rfl
theorem u_R_isIn_2 : ex cal k_R_isIn 2 (ls) (aL j :: aL i :: st) h = ex cal k_R_isIn 3 (ls) (aI (wlt i j) :: st) h := ex_st cal (s := s_lcmp 3) rfl rfl
theorem u_R_isIn_3 : ex cal k_R_isIn 3 (ls) (aI i :: st) h = if wr i < 0 then ex cal k_R_isIn 17 (ls) (st) h else ex cal k_R_isIn 6 (ls) (st) h := e_iflt cal rfl
theorem u_R_isIn_6 : ex cal k_R_isIn 6 (aL v :: ls) (st) h = ex cal k_R_isIn 7 (aL v :: ls) (aL v :: st) h := ex_st cal (s := s_lld 0 7) rfl rfl
theorem u_R_isIn_7 : ex cal k_R_isIn 7 (x0 :: x1 :: x2 :: x3 :: aL v :: ls) (st) h = ex cal k_R_isIn 9 (x0 :: x1 :: x2 :: x3 :: aL v :: ls) (aL v :: st) h := ex_st cal (s := s_lld 4 9) rfl rfl
theorem u_R_isIn_9 : ex cal k_R_isIn 9 (ls) (aL j :: aL i :: st) h = ex cal k_R_isIn 10 (ls) (aI (wlt i j) :: st) h := ex_st cal (s := s_lcmp 10) rfl rfl
theorem u_R_isIn_10 : ex cal k_R_isIn 10 (ls) (aI i :: st) h = if 0 < wr i then ex cal k_R_isIn 17 (ls) (st) h else ex cal k_R_isIn 13 (ls) (st) h := e_ifgt cal rfl
theorem u_R_isIn_13 : ex cal k_R_isIn 13 (ls) (st) h = ex cal k_R_isIn 14 (ls) (aI 1 :: st) h := e_push cal rfl
theorem u_R_isIn_14 : ex cal k_R_isIn 14 (ls) (st) h = ex cal k_R_isIn 18 (ls) (st) h := ex_st cal (s := s_go 18) rfl rfl
theorem u_R_isIn_17 : ex cal k_R_isIn 17 (ls) (st) h = ex cal k_R_isIn 18 (ls) (aI 0 :: st) h := e_push cal rfl
theorem u_R_isIn_18 (hv : v = 0 ∨ v = 1) : ex cal k_R_isIn 18 (ls) ([aI v]) h = some (some (aI v), h) := e_ret22 rfl hv
theorem n_R_isIn (d : Nat) : ev (d + 1) M_R_isIn [aL z0, aL z1, aL z2] h = ex (ev d) k_R_isIn 0 [aL z0, aU, aL z1, aU, aL z2, aU] [] h := rfl
theorem u_R_refused_0 : ex cal k_R_refused 0 (aQ r :: ls) (st) h = ex cal k_R_refused 1 (aQ r :: ls) (aQ r :: st) h := ex_st cal (s := s_ald 0 1) rfl rfl
theorem u_R_refused_1 : ex cal k_R_refused 1 (x0 :: aI v :: ls) (st) h = ex cal k_R_refused 2 (x0 :: aI v :: ls) (aI v :: st) h := ex_st cal (s := s_ild 1 2) rfl rfl
theorem u_R_refused_2 : ex cal k_R_refused 2 (ls) (aI v :: aQ (some a) :: st) h = gO h a 10 (ex cal k_R_refused 5 (ls) (st) (pf h a 18 (aI v))) := e_pf1 rfl rfl
theorem u_R_refused_5 : ex cal k_R_refused 5 (ls) (st) h = ex cal k_R_refused 6 (ls) (aI (-1) :: st) h := e_push cal rfl
theorem u_R_refused_6 : ex cal k_R_refused 6 (ls) ([aI v]) h = some (some (aI v), h) := e_ret1 cal rfl
theorem n_R_refused (d : Nat) : ev (d + 1) M_R_refused [aQ (some a), aI z0] h = ex (ev d) k_R_refused 0 [aQ (some a), aI z0] [] h := rfl
theorem u_R_done_0 : ex cal k_R_done 0 (aQ r :: ls) (st) h = ex cal k_R_done 1 (aQ r :: ls) (aQ r :: st) h := ex_st cal (s := s_ald 0 1) rfl rfl
theorem u_R_done_1 : ex cal k_R_done 1 (ls) (st) h = ex cal k_R_done 2 (ls) (aI 0 :: st) h := e_push cal rfl
theorem u_R_done_2 : ex cal k_R_done 2 (ls) (aI v :: aQ (some a) :: st) h = gO h a 10 (ex cal k_R_done 5 (ls) (st) (pf h a 18 (aI v))) := e_pf1 rfl rfl
theorem u_R_done_5 : ex cal k_R_done 5 (x0 :: aI v :: ls) (st) h = ex cal k_R_done 6 (x0 :: aI v :: ls) (aI v :: st) h := ex_st cal (s := s_ild 1 6) rfl rfl
theorem u_R_done_6 : ex cal k_R_done 6 (ls) ([aI v]) h = some (some (aI v), h) := e_ret1 cal rfl
theorem n_R_done (d : Nat) : ev (d + 1) M_R_done [aQ (some a), aI z0] h = ex (ev d) k_R_done 0 [aQ (some a), aI z0] [] h := rfl
theorem u_R_isPerson_0 : ex cal k_R_isPerson 0 (x0 :: aI v :: ls) (st) h = ex cal k_R_isPerson 1 (x0 :: aI v :: ls) (aI v :: st) h := ex_st cal (s := s_ild 1 1) rfl rfl
theorem u_R_isPerson_1 : ex cal k_R_isPerson 1 (ls) (aI i :: st) h = if wr i < 0 then ex cal k_R_isPerson 18 (ls) (st) h else ex cal k_R_isPerson 4 (ls) (st) h := e_iflt cal rfl
theorem u_R_isPerson_4 : ex cal k_R_isPerson 4 (x0 :: aI v :: ls) (st) h = ex cal k_R_isPerson 5 (x0 :: aI v :: ls) (aI v :: st) h := ex_st cal (s := s_ild 1 5) rfl rfl
theorem u_R_isPerson_5 : ex cal k_R_isPerson 5 (aQ r :: ls) (st) h = ex cal k_R_isPerson 6 (aQ r :: ls) (aQ r :: st) h := ex_st cal (s := s_ald 0 6) rfl rfl
theorem u_R_isPerson_6 : ex cal k_R_isPerson 6 (ls) (aQ (some a) :: st) h = gO h a 10 (ex cal k_R_isPerson 9 (ls) (gf h a 14 :: st) h) := e_gf cal rfl
theorem u_R_isPerson_9 : ex cal k_R_isPerson 9 (ls) (st) h = ex cal k_R_isPerson 10 (ls) (aI 0 :: st) h := e_push cal rfl
theorem u_R_isPerson_10 : ex cal k_R_isPerson 10 (ls) (aI i :: aQ (some a) :: st) h = gA h a i (ex cal k_R_isPerson 11 (ls) (aI (ai h a (wr i)) :: st) h) := e_ia cal rfl
theorem u_R_isPerson_11 : ex cal k_R_isPerson 11 (ls) (aI j :: aI i :: st) h = if wr i < wr j then ex cal k_R_isPerson 14 (ls) (st) h else ex cal k_R_isPerson 18 (ls) (st) h := e_icge cal rfl
theorem u_R_isPerson_14 : ex cal k_R_isPerson 14 (ls) (st) h = ex cal k_R_isPerson 15 (ls) (aI 1 :: st) h := e_push cal rfl
theorem u_R_isPerson_15 : ex cal k_R_isPerson 15 (ls) (st) h = ex cal k_R_isPerson 19 (ls) (st) h := ex_st cal (s := s_go 19) rfl rfl
theorem u_R_isPerson_18 : ex cal k_R_isPerson 18 (ls) (st) h = ex cal k_R_isPerson 19 (ls) (aI 0 :: st) h := e_push cal rfl
theorem u_R_isPerson_19 (hv : v = 0 ∨ v = 1) : ex cal k_R_isPerson 19 (ls) ([aI v]) h = some (some (aI v), h) := e_ret22 rfl hv
theorem n_R_isPerson (d : Nat) : ev (d + 1) M_R_isPerson [aQ (some a), aI z0] h = ex (ev d) k_R_isPerson 0 [aQ (some a), aI z0] [] h := rfl
theorem u_R_isFile_0 : ex cal k_R_isFile 0 (aI v :: ls) (st) h = ex cal k_R_isFile 1 (aI v :: ls) (aI v :: st) h := ex_st cal (s := s_ild 0 1) rfl rfl
theorem u_R_isFile_1 : ex cal k_R_isFile 1 (ls) (aI i :: st) h = if wr i < 0 then ex cal k_R_isFile 14 (ls) (st) h else ex cal k_R_isFile 4 (ls) (st) h := e_iflt cal rfl
theorem u_R_isFile_4 : ex cal k_R_isFile 4 (aI v :: ls) (st) h = ex cal k_R_isFile 5 (aI v :: ls) (aI v :: st) h := ex_st cal (s := s_ild 0 5) rfl rfl
theorem u_R_isFile_5 : ex cal k_R_isFile 5 (ls) (st) h = ex cal k_R_isFile 7 (ls) (aI 6 :: st) h := e_push cal rfl
theorem u_R_isFile_7 : ex cal k_R_isFile 7 (ls) (aI j :: aI i :: st) h = if wr i < wr j then ex cal k_R_isFile 10 (ls) (st) h else ex cal k_R_isFile 14 (ls) (st) h := e_icge cal rfl
theorem u_R_isFile_10 : ex cal k_R_isFile 10 (ls) (st) h = ex cal k_R_isFile 11 (ls) (aI 1 :: st) h := e_push cal rfl
theorem u_R_isFile_11 : ex cal k_R_isFile 11 (ls) (st) h = ex cal k_R_isFile 15 (ls) (st) h := ex_st cal (s := s_go 15) rfl rfl
theorem u_R_isFile_14 : ex cal k_R_isFile 14 (ls) (st) h = ex cal k_R_isFile 15 (ls) (aI 0 :: st) h := e_push cal rfl
theorem u_R_isFile_15 (hv : v = 0 ∨ v = 1) : ex cal k_R_isFile 15 (ls) ([aI v]) h = some (some (aI v), h) := e_ret22 rfl hv
theorem n_R_isFile (d : Nat) : ev (d + 1) M_R_isFile [aI z0] h = ex (ev d) k_R_isFile 0 [aI z0] [] h := rfl
theorem u_R_isLine_0 : ex cal k_R_isLine 0 (x0 :: aI v :: ls) (st) h = ex cal k_R_isLine 1 (x0 :: aI v :: ls) (aI v :: st) h := ex_st cal (s := s_ild 1 1) rfl rfl
theorem u_R_isLine_1 (hl : Nat.ble st.length 4 = true) : ex cal k_R_isLine 1 (ls) (aI z0 :: st) h = kk cal k_R_isLine 4 ls st (cal M_R_isFile [aI z0] h) := e_call cal (as := [aI z0]) rfl rfl (Nat.le_of_ble_eq_true hl)
theorem u_R_isLine_4 : ex cal k_R_isLine 4 (ls) (aI i :: st) h = if wr i = 0 then ex cal k_R_isLine 25 (ls) (st) h else ex cal k_R_isLine 7 (ls) (st) h := e_ifeq cal rfl
theorem u_R_isLine_7 : ex cal k_R_isLine 7 (x0 :: x1 :: aI v :: ls) (st) h = ex cal k_R_isLine 8 (x0 :: x1 :: aI v :: ls) (aI v :: st) h := ex_st cal (s := s_ild 2 8) rfl rfl
theorem u_R_isLine_8 : ex cal k_R_isLine 8 (ls) (aI i :: st) h = if wr i < 0 then ex cal k_R_isLine 25 (ls) (st) h else ex cal k_R_isLine 11 (ls) (st) h := e_iflt cal rfl
theorem u_R_isLine_11 : ex cal k_R_isLine 11 (x0 :: x1 :: aI v :: ls) (st) h = ex cal k_R_isLine 12 (x0 :: x1 :: aI v :: ls) (aI v :: st) h := ex_st cal (s := s_ild 2 12) rfl rfl
theorem u_R_isLine_12 : ex cal k_R_isLine 12 (aQ r :: ls) (st) h = ex cal k_R_isLine 13 (aQ r :: ls) (aQ r :: st) h := ex_st cal (s := s_ald 0 13) rfl rfl
theorem u_R_isLine_13 : ex cal k_R_isLine 13 (ls) (aQ (some a) :: st) h = gO h a 10 (ex cal k_R_isLine 16 (ls) (gf h a 1 :: st) h) := e_gf cal rfl
theorem u_R_isLine_16 : ex cal k_R_isLine 16 (x0 :: aI v :: ls) (st) h = ex cal k_R_isLine 17 (x0 :: aI v :: ls) (aI v :: st) h := ex_st cal (s := s_ild 1 17) rfl rfl
theorem u_R_isLine_17 : ex cal k_R_isLine 17 (ls) (aI i :: aQ (some a) :: st) h = gA h a i (ex cal k_R_isLine 18 (ls) (aI (ai h a (wr i)) :: st) h) := e_ia cal rfl
theorem u_R_isLine_18 : ex cal k_R_isLine 18 (ls) (aI j :: aI i :: st) h = if wr i < wr j then ex cal k_R_isLine 21 (ls) (st) h else ex cal k_R_isLine 25 (ls) (st) h := e_icge cal rfl
theorem u_R_isLine_21 : ex cal k_R_isLine 21 (ls) (st) h = ex cal k_R_isLine 22 (ls) (aI 1 :: st) h := e_push cal rfl
theorem u_R_isLine_22 : ex cal k_R_isLine 22 (ls) (st) h = ex cal k_R_isLine 26 (ls) (st) h := ex_st cal (s := s_go 26) rfl rfl
theorem u_R_isLine_25 : ex cal k_R_isLine 25 (ls) (st) h = ex cal k_R_isLine 26 (ls) (aI 0 :: st) h := e_push cal rfl
theorem u_R_isLine_26 (hv : v = 0 ∨ v = 1) : ex cal k_R_isLine 26 (ls) ([aI v]) h = some (some (aI v), h) := e_ret22 rfl hv
theorem n_R_isLine (d : Nat) : ev (d + 1) M_R_isLine [aQ (some a), aI z0, aI z1] h = ex (ev d) k_R_isLine 0 [aQ (some a), aI z0, aI z1] [] h := rfl
theorem u_R_isChange_0 : ex cal k_R_isChange 0 (x0 :: aI v :: ls) (st) h = ex cal k_R_isChange 1 (x0 :: aI v :: ls) (aI v :: st) h := ex_st cal (s := s_ild 1 1) rfl rfl
theorem u_R_isChange_1 : ex cal k_R_isChange 1 (ls) (aI i :: st) h = if wr i < 0 then ex cal k_R_isChange 18 (ls) (st) h else ex cal k_R_isChange 4 (ls) (st) h := e_iflt cal rfl
theorem u_R_isChange_4 : ex cal k_R_isChange 4 (x0 :: aI v :: ls) (st) h = ex cal k_R_isChange 5 (x0 :: aI v :: ls) (aI v :: st) h := ex_st cal (s := s_ild 1 5) rfl rfl
theorem u_R_isChange_5 : ex cal k_R_isChange 5 (aQ r :: ls) (st) h = ex cal k_R_isChange 6 (aQ r :: ls) (aQ r :: st) h := ex_st cal (s := s_ald 0 6) rfl rfl
theorem u_R_isChange_6 : ex cal k_R_isChange 6 (ls) (aQ (some a) :: st) h = gO h a 10 (ex cal k_R_isChange 9 (ls) (gf h a 14 :: st) h) := e_gf cal rfl
theorem u_R_isChange_9 : ex cal k_R_isChange 9 (ls) (st) h = ex cal k_R_isChange 10 (ls) (aI 1 :: st) h := e_push cal rfl
theorem u_R_isChange_10 : ex cal k_R_isChange 10 (ls) (aI i :: aQ (some a) :: st) h = gA h a i (ex cal k_R_isChange 11 (ls) (aI (ai h a (wr i)) :: st) h) := e_ia cal rfl
theorem u_R_isChange_11 : ex cal k_R_isChange 11 (ls) (aI j :: aI i :: st) h = if wr i < wr j then ex cal k_R_isChange 14 (ls) (st) h else ex cal k_R_isChange 18 (ls) (st) h := e_icge cal rfl
theorem u_R_isChange_14 : ex cal k_R_isChange 14 (ls) (st) h = ex cal k_R_isChange 15 (ls) (aI 1 :: st) h := e_push cal rfl
theorem u_R_isChange_15 : ex cal k_R_isChange 15 (ls) (st) h = ex cal k_R_isChange 19 (ls) (st) h := ex_st cal (s := s_go 19) rfl rfl
theorem u_R_isChange_18 : ex cal k_R_isChange 18 (ls) (st) h = ex cal k_R_isChange 19 (ls) (aI 0 :: st) h := e_push cal rfl
theorem u_R_isChange_19 (hv : v = 0 ∨ v = 1) : ex cal k_R_isChange 19 (ls) ([aI v]) h = some (some (aI v), h) := e_ret22 rfl hv
theorem n_R_isChange (d : Nat) : ev (d + 1) M_R_isChange [aQ (some a), aI z0] h = ex (ev d) k_R_isChange 0 [aQ (some a), aI z0] [] h := rfl
theorem u_R_isHere_0 : ex cal k_R_isHere 0 (aQ r :: ls) (st) h = ex cal k_R_isHere 1 (aQ r :: ls) (aQ r :: st) h := ex_st cal (s := s_ald 0 1) rfl rfl
theorem u_R_isHere_1 : ex cal k_R_isHere 1 (ls) (aQ (some a) :: st) h = gO h a 10 (ex cal k_R_isHere 4 (ls) (gf h a 14 :: st) h) := e_gf cal rfl
theorem u_R_isHere_4 : ex cal k_R_isHere 4 (ls) (st) h = ex cal k_R_isHere 5 (ls) (aI 3 :: st) h := e_push cal rfl
theorem u_R_isHere_5 : ex cal k_R_isHere 5 (ls) (aI i :: aQ (some a) :: st) h = gA h a i (ex cal k_R_isHere 6 (ls) (aI (ai h a (wr i)) :: st) h) := e_ia cal rfl
theorem u_R_isHere_6 : ex cal k_R_isHere 6 (x0 :: aI v :: ls) (st) h = ex cal k_R_isHere 7 (x0 :: aI v :: ls) (aI v :: st) h := ex_st cal (s := s_ild 1 7) rfl rfl
theorem u_R_isHere_7 : ex cal k_R_isHere 7 (ls) (aI j :: aI i :: st) h = ex cal k_R_isHere 8 (ls) (aI (wshr i j) :: st) h := e_bin cal rfl
theorem u_R_isHere_8 : ex cal k_R_isHere 8 (ls) (st) h = ex cal k_R_isHere 9 (ls) (aI 1 :: st) h := e_push cal rfl
theorem u_R_isHere_9 : ex cal k_R_isHere 9 (ls) (aI j :: aI i :: st) h = ex cal k_R_isHere 10 (ls) (aI (wand i j) :: st) h := e_bin cal rfl
theorem u_R_isHere_10 : ex cal k_R_isHere 10 (ls) (st) h = ex cal k_R_isHere 11 (ls) (aI 1 :: st) h := e_push cal rfl
theorem u_R_isHere_11 : ex cal k_R_isHere 11 (ls) (aI j :: aI i :: st) h = if wr i = wr j then ex cal k_R_isHere 14 (ls) (st) h else ex cal k_R_isHere 18 (ls) (st) h := e_icne cal rfl
theorem u_R_isHere_14 : ex cal k_R_isHere 14 (ls) (st) h = ex cal k_R_isHere 15 (ls) (aI 1 :: st) h := e_push cal rfl
theorem u_R_isHere_15 : ex cal k_R_isHere 15 (ls) (st) h = ex cal k_R_isHere 19 (ls) (st) h := ex_st cal (s := s_go 19) rfl rfl
theorem u_R_isHere_18 : ex cal k_R_isHere 18 (ls) (st) h = ex cal k_R_isHere 19 (ls) (aI 0 :: st) h := e_push cal rfl
theorem u_R_isHere_19 (hv : v = 0 ∨ v = 1) : ex cal k_R_isHere 19 (ls) ([aI v]) h = some (some (aI v), h) := e_ret22 rfl hv
theorem n_R_isHere (d : Nat) : ev (d + 1) M_R_isHere [aQ (some a), aI z0] h = ex (ev d) k_R_isHere 0 [aQ (some a), aI z0] [] h := rfl
theorem u_R_person_0 : ex cal k_R_person 0 (x0 :: aI v :: ls) (st) h = ex cal k_R_person 1 (x0 :: aI v :: ls) (aI v :: st) h := ex_st cal (s := s_ild 1 1) rfl rfl
theorem u_R_person_1 : ex cal k_R_person 1 (ls) (aI i :: st) h = ex cal k_R_person 2 (ls) (aL (wr i) :: st) h := ex_st cal (s := s_i2l 2) rfl rfl
theorem u_R_person_2 : ex cal k_R_person 2 (ls) (st) h = ex cal k_R_person 3 (ls) (aL 0 :: st) h := e_push cal rfl
theorem u_R_person_3 : ex cal k_R_person 3 (ls) (st) h = ex cal k_R_person 6 (ls) (aL 99 :: st) h := e_push cal rfl
theorem u_R_person_6 (hl : Nat.ble st.length 4 = true) : ex cal k_R_person 6 (ls) (aL z2 :: aL z1 :: aL z0 :: st) h = kk cal k_R_person 9 ls st (cal M_R_isIn [aL z0, aL z1, aL z2] h) := e_call cal (as := [aL z2, aL z1, aL z0]) rfl rfl (Nat.le_of_ble_eq_true hl)
theorem u_R_person_9 : ex cal k_R_person 9 (ls) (aI i :: st) h = if wr i = 0 then ex cal k_R_person 12 (ls) (st) h else ex cal k_R_person 18 (ls) (st) h := e_ifne cal rfl
theorem u_R_person_12 : ex cal k_R_person 12 (aQ r :: ls) (st) h = ex cal k_R_person 13 (aQ r :: ls) (aQ r :: st) h := ex_st cal (s := s_ald 0 13) rfl rfl
theorem u_R_person_13 : ex cal k_R_person 13 (ls) (st) h = ex cal k_R_person 14 (ls) (aI 1 :: st) h := e_push cal rfl
theorem u_R_person_14 (hl : Nat.ble st.length 4 = true) : ex cal k_R_person 14 (ls) (aI z0 :: aQ (some a) :: st) h = gO h a 10 (kk cal k_R_person 17 ls st (cal M_R_refused [aQ (some a), aI z0] h)) := e_callV cal (ci := 10) (as := [aI z0]) rfl (by decide) rfl (Nat.le_of_ble_eq_true hl)
theorem u_R_person_17 : ex cal k_R_person 17 (ls) ([aI v]) h = some (some (aI v), h) := e_ret1 cal rfl
theorem u_R_person_18 : ex cal k_R_person 18 (aQ r :: ls) (st) h = ex cal k_R_person 19 (aQ r :: ls) (aQ r :: st) h := ex_st cal (s := s_ald 0 19) rfl rfl
theorem u_R_person_19 : ex cal k_R_person 19 (ls) (aQ (some a) :: st) h = gO h a 10 (ex cal k_R_person 22 (ls) (gf h a 14 :: st) h) := e_gf cal rfl
theorem u_R_person_22 : ex cal k_R_person 22 (ls) (st) h = ex cal k_R_person 23 (ls) (aI 0 :: st) h := e_push cal rfl
theorem u_R_person_23 : ex cal k_R_person 23 (ls) (aI i :: aQ (some a) :: st) h = gA h a i (ex cal k_R_person 24 (ls) (aI (ai h a (wr i)) :: st) h) := e_ia cal rfl
theorem u_R_person_24 : ex cal k_R_person 24 (ls) (st) h = ex cal k_R_person 26 (ls) (aI 8 :: st) h := e_push cal rfl
theorem u_R_person_26 : ex cal k_R_person 26 (ls) (aI j :: aI i :: st) h = if wr i = wr j then ex cal k_R_person 29 (ls) (st) h else ex cal k_R_person 35 (ls) (st) h := e_icne cal rfl
theorem u_R_person_29 : ex cal k_R_person 29 (aQ r :: ls) (st) h = ex cal k_R_person 30 (aQ r :: ls) (aQ r :: st) h := ex_st cal (s := s_ald 0 30) rfl rfl
theorem u_R_person_30 : ex cal k_R_person 30 (ls) (st) h = ex cal k_R_person 31 (ls) (aI 2 :: st) h := e_push cal rfl
theorem u_R_person_31 (hl : Nat.ble st.length 4 = true) : ex cal k_R_person 31 (ls) (aI z0 :: aQ (some a) :: st) h = gO h a 10 (kk cal k_R_person 34 ls st (cal M_R_refused [aQ (some a), aI z0] h)) := e_callV cal (ci := 10) (as := [aI z0]) rfl (by decide) rfl (Nat.le_of_ble_eq_true hl)
theorem u_R_person_34 : ex cal k_R_person 34 (ls) ([aI v]) h = some (some (aI v), h) := e_ret1 cal rfl
theorem u_R_person_35 : ex cal k_R_person 35 (aQ r :: ls) (st) h = ex cal k_R_person 36 (aQ r :: ls) (aQ r :: st) h := ex_st cal (s := s_ald 0 36) rfl rfl
theorem u_R_person_36 : ex cal k_R_person 36 (ls) (aQ (some a) :: st) h = gO h a 10 (ex cal k_R_person 39 (ls) (gf h a 14 :: st) h) := e_gf cal rfl
theorem u_R_person_39 : ex cal k_R_person 39 (ls) (st) h = ex cal k_R_person 40 (ls) (aI 0 :: st) h := e_push cal rfl
theorem u_R_person_40 : ex cal k_R_person 40 (ls) (aI i :: aQ (some a) :: st) h = gA h a i (ex cal k_R_person 41 (ls) (aI (ai h a (wr i)) :: st) h) := e_ia cal rfl
theorem u_R_person_41 (hx : aNl x1 = true) : ex cal k_R_person 41 (x0 :: x1 :: y :: ls) (aI v :: st) h = ex cal k_R_person 42 (x0 :: x1 :: aI v :: ls) (st) h := e_ist (ls := x0 :: x1 :: y :: ls) (k := 2) rfl hx (by simp only [List.length_cons]; omega)
theorem u_R_person_42 : ex cal k_R_person 42 (aQ r :: ls) (st) h = ex cal k_R_person 43 (aQ r :: ls) (aQ r :: st) h := ex_st cal (s := s_ald 0 43) rfl rfl
theorem u_R_person_43 : ex cal k_R_person 43 (ls) (aQ (some a) :: st) h = gO h a 10 (ex cal k_R_person 46 (ls) (gf h a 12 :: st) h) := e_gf cal rfl
theorem u_R_person_46 : ex cal k_R_person 46 (x0 :: x1 :: aI v :: ls) (st) h = ex cal k_R_person 47 (x0 :: x1 :: aI v :: ls) (aI v :: st) h := ex_st cal (s := s_ild 2 47) rfl rfl
theorem u_R_person_47 : ex cal k_R_person 47 (x0 :: aI v :: ls) (st) h = ex cal k_R_person 48 (x0 :: aI v :: ls) (aI v :: st) h := ex_st cal (s := s_ild 1 48) rfl rfl
theorem u_R_person_48 (h3 : 3 ≤ a) : ex cal k_R_person 48 (ls) (aI v :: aI i :: aQ (some a) :: st) h = gA h a i (ex cal k_R_person 49 (ls) (st) (sa h a (upf (ai h a) (wr i) v))) := e_ias cal rfl h3
theorem u_R_person_49 : ex cal k_R_person 49 (aQ r :: ls) (st) h = ex cal k_R_person 50 (aQ r :: ls) (aQ r :: st) h := ex_st cal (s := s_ald 0 50) rfl rfl
theorem u_R_person_50 : ex cal k_R_person 50 (ls) (aQ (some a) :: st) h = gO h a 10 (ex cal k_R_person 53 (ls) (gf h a 14 :: st) h) := e_gf cal rfl
theorem u_R_person_53 : ex cal k_R_person 53 (ls) (st) h = ex cal k_R_person 54 (ls) (aI 0 :: st) h := e_push cal rfl
theorem u_R_person_54 (hx : aNl y = true) (hy : aNl y2 = true) : ex cal k_R_person 54 (ls) (y :: y2 :: st) h = ex cal k_R_person 55 (ls) (y :: y2 :: y :: y2 :: st) h := e_dup2 rfl hx hy
theorem u_R_person_55 : ex cal k_R_person 55 (ls) (aI i :: aQ (some a) :: st) h = gA h a i (ex cal k_R_person 56 (ls) (aI (ai h a (wr i)) :: st) h) := e_ia cal rfl
theorem u_R_person_56 : ex cal k_R_person 56 (ls) (st) h = ex cal k_R_person 57 (ls) (aI 1 :: st) h := e_push cal rfl
theorem u_R_person_57 : ex cal k_R_person 57 (ls) (aI j :: aI i :: st) h = ex cal k_R_person 58 (ls) (aI (i + j) :: st) h := e_bin cal rfl
theorem u_R_person_58 (h3 : 3 ≤ a) : ex cal k_R_person 58 (ls) (aI v :: aI i :: aQ (some a) :: st) h = gA h a i (ex cal k_R_person 59 (ls) (st) (sa h a (upf (ai h a) (wr i) v))) := e_ias cal rfl h3
theorem u_R_person_59 : ex cal k_R_person 59 (aQ r :: ls) (st) h = ex cal k_R_person 60 (aQ r :: ls) (aQ r :: st) h := ex_st cal (s := s_ald 0 60) rfl rfl
theorem u_R_person_60 : ex cal k_R_person 60 (ls) (aQ (some a) :: st) h = gO h a 10 (ex cal k_R_person 63 (ls) (gf h a 14 :: st) h) := e_gf cal rfl
theorem u_R_person_63 : ex cal k_R_person 63 (ls) (st) h = ex cal k_R_person 64 (ls) (aI 3 :: st) h := e_push cal rfl
theorem u_R_person_64 (hx : aNl y = true) (hy : aNl y2 = true) : ex cal k_R_person 64 (ls) (y :: y2 :: st) h = ex cal k_R_person 65 (ls) (y :: y2 :: y :: y2 :: st) h := e_dup2 rfl hx hy
theorem u_R_person_65 : ex cal k_R_person 65 (ls) (aI i :: aQ (some a) :: st) h = gA h a i (ex cal k_R_person 66 (ls) (aI (ai h a (wr i)) :: st) h) := e_ia cal rfl
theorem u_R_person_66 : ex cal k_R_person 66 (ls) (st) h = ex cal k_R_person 67 (ls) (aI 1 :: st) h := e_push cal rfl
theorem u_R_person_67 : ex cal k_R_person 67 (x0 :: x1 :: aI v :: ls) (st) h = ex cal k_R_person 68 (x0 :: x1 :: aI v :: ls) (aI v :: st) h := ex_st cal (s := s_ild 2 68) rfl rfl
theorem u_R_person_68 : ex cal k_R_person 68 (ls) (aI j :: aI i :: st) h = ex cal k_R_person 69 (ls) (aI (wshl i j) :: st) h := e_bin cal rfl
theorem u_R_person_69 : ex cal k_R_person 69 (ls) (aI j :: aI i :: st) h = ex cal k_R_person 70 (ls) (aI (wor i j) :: st) h := e_bin cal rfl
theorem u_R_person_70 (h3 : 3 ≤ a) : ex cal k_R_person 70 (ls) (aI v :: aI i :: aQ (some a) :: st) h = gA h a i (ex cal k_R_person 71 (ls) (st) (sa h a (upf (ai h a) (wr i) v))) := e_ias cal rfl h3
theorem u_R_person_71 : ex cal k_R_person 71 (aQ r :: ls) (st) h = ex cal k_R_person 72 (aQ r :: ls) (aQ r :: st) h := ex_st cal (s := s_ald 0 72) rfl rfl
theorem u_R_person_72 : ex cal k_R_person 72 (x0 :: x1 :: aI v :: ls) (st) h = ex cal k_R_person 73 (x0 :: x1 :: aI v :: ls) (aI v :: st) h := ex_st cal (s := s_ild 2 73) rfl rfl
theorem u_R_person_73 (hl : Nat.ble st.length 4 = true) : ex cal k_R_person 73 (ls) (aI z0 :: aQ (some a) :: st) h = gO h a 10 (kk cal k_R_person 76 ls st (cal M_R_done [aQ (some a), aI z0] h)) := e_callV cal (ci := 10) (as := [aI z0]) rfl (by decide) rfl (Nat.le_of_ble_eq_true hl)
theorem u_R_person_76 : ex cal k_R_person 76 (ls) ([aI v]) h = some (some (aI v), h) := e_ret1 cal rfl
theorem n_R_person (d : Nat) : ev (d + 1) M_R_person [aQ (some a), aI z0] h = ex (ev d) k_R_person 0 [aQ (some a), aI z0, aU] [] h := rfl
theorem u_R_here_0 : ex cal k_R_here 0 (aQ r :: ls) (st) h = ex cal k_R_here 1 (aQ r :: ls) (aQ r :: st) h := ex_st cal (s := s_ald 0 1) rfl rfl
theorem u_R_here_1 : ex cal k_R_here 1 (x0 :: aI v :: ls) (st) h = ex cal k_R_here 2 (x0 :: aI v :: ls) (aI v :: st) h := ex_st cal (s := s_ild 1 2) rfl rfl
theorem u_R_here_2 (hl : Nat.ble st.length 4 = true) : ex cal k_R_here 2 (ls) (aI z0 :: aQ (some a) :: st) h = gO h a 10 (kk cal k_R_here 5 ls st (cal M_R_isPerson [aQ (some a), aI z0] h)) := e_callV cal (ci := 10) (as := [aI z0]) rfl (by decide) rfl (Nat.le_of_ble_eq_true hl)
theorem u_R_here_5 : ex cal k_R_here 5 (ls) (aI i :: st) h = if wr i = 0 then ex cal k_R_here 8 (ls) (st) h else ex cal k_R_here 14 (ls) (st) h := e_ifne cal rfl
theorem u_R_here_8 : ex cal k_R_here 8 (aQ r :: ls) (st) h = ex cal k_R_here 9 (aQ r :: ls) (aQ r :: st) h := ex_st cal (s := s_ald 0 9) rfl rfl
theorem u_R_here_9 : ex cal k_R_here 9 (ls) (st) h = ex cal k_R_here 10 (ls) (aI 1 :: st) h := e_push cal rfl
theorem u_R_here_10 (hl : Nat.ble st.length 4 = true) : ex cal k_R_here 10 (ls) (aI z0 :: aQ (some a) :: st) h = gO h a 10 (kk cal k_R_here 13 ls st (cal M_R_refused [aQ (some a), aI z0] h)) := e_callV cal (ci := 10) (as := [aI z0]) rfl (by decide) rfl (Nat.le_of_ble_eq_true hl)
theorem u_R_here_13 : ex cal k_R_here 13 (ls) ([aI v]) h = some (some (aI v), h) := e_ret1 cal rfl
theorem u_R_here_14 : ex cal k_R_here 14 (aQ r :: ls) (st) h = ex cal k_R_here 15 (aQ r :: ls) (aQ r :: st) h := ex_st cal (s := s_ald 0 15) rfl rfl
theorem u_R_here_15 : ex cal k_R_here 15 (x0 :: aI v :: ls) (st) h = ex cal k_R_here 16 (x0 :: aI v :: ls) (aI v :: st) h := ex_st cal (s := s_ild 1 16) rfl rfl
theorem u_R_here_16 (hl : Nat.ble st.length 4 = true) : ex cal k_R_here 16 (ls) (aI z0 :: aQ (some a) :: st) h = gO h a 10 (kk cal k_R_here 19 ls st (cal M_R_isHere [aQ (some a), aI z0] h)) := e_callV cal (ci := 10) (as := [aI z0]) rfl (by decide) rfl (Nat.le_of_ble_eq_true hl)
theorem u_R_here_19 : ex cal k_R_here 19 (x0 :: x1 :: aI v :: ls) (st) h = ex cal k_R_here 20 (x0 :: x1 :: aI v :: ls) (aI v :: st) h := ex_st cal (s := s_ild 2 20) rfl rfl
theorem u_R_here_20 : ex cal k_R_here 20 (ls) (aI j :: aI i :: st) h = if wr i = wr j then ex cal k_R_here 27 (ls) (st) h else ex cal k_R_here 23 (ls) (st) h := e_iceq cal rfl
theorem u_R_here_23 : ex cal k_R_here 23 (ls) (st) h = ex cal k_R_here 24 (ls) (aI 1 :: st) h := e_push cal rfl
theorem u_R_here_24 : ex cal k_R_here 24 (ls) (st) h = ex cal k_R_here 28 (ls) (st) h := ex_st cal (s := s_go 28) rfl rfl
theorem u_R_here_27 : ex cal k_R_here 27 (ls) (st) h = ex cal k_R_here 28 (ls) (aI 0 :: st) h := e_push cal rfl
theorem u_R_here_28 (hx : aNl x2 = true) : ex cal k_R_here 28 (x0 :: x1 :: x2 :: y :: ls) (aI v :: st) h = ex cal k_R_here 29 (x0 :: x1 :: x2 :: aI v :: ls) (st) h := e_ist (ls := x0 :: x1 :: x2 :: y :: ls) (k := 3) rfl hx (by simp only [List.length_cons]; omega)
theorem u_R_here_29 : ex cal k_R_here 29 (x0 :: x1 :: x2 :: aI v :: ls) (st) h = ex cal k_R_here 30 (x0 :: x1 :: x2 :: aI v :: ls) (aI v :: st) h := ex_st cal (s := s_ild 3 30) rfl rfl
theorem u_R_here_30 : ex cal k_R_here 30 (ls) (aI i :: st) h = if wr i = 0 then ex cal k_R_here 45 (ls) (st) h else ex cal k_R_here 33 (ls) (st) h := e_ifeq cal rfl
theorem u_R_here_33 : ex cal k_R_here 33 (aQ r :: ls) (st) h = ex cal k_R_here 34 (aQ r :: ls) (aQ r :: st) h := ex_st cal (s := s_ald 0 34) rfl rfl
theorem u_R_here_34 : ex cal k_R_here 34 (ls) (aQ (some a) :: st) h = gO h a 10 (ex cal k_R_here 37 (ls) (gf h a 14 :: st) h) := e_gf cal rfl
theorem u_R_here_37 : ex cal k_R_here 37 (ls) (st) h = ex cal k_R_here 38 (ls) (aI 3 :: st) h := e_push cal rfl
theorem u_R_here_38 (hx : aNl y = true) (hy : aNl y2 = true) : ex cal k_R_here 38 (ls) (y :: y2 :: st) h = ex cal k_R_here 39 (ls) (y :: y2 :: y :: y2 :: st) h := e_dup2 rfl hx hy
theorem u_R_here_39 : ex cal k_R_here 39 (ls) (aI i :: aQ (some a) :: st) h = gA h a i (ex cal k_R_here 40 (ls) (aI (ai h a (wr i)) :: st) h) := e_ia cal rfl
theorem u_R_here_40 : ex cal k_R_here 40 (ls) (st) h = ex cal k_R_here 41 (ls) (aI 1 :: st) h := e_push cal rfl
theorem u_R_here_41 : ex cal k_R_here 41 (x0 :: aI v :: ls) (st) h = ex cal k_R_here 42 (x0 :: aI v :: ls) (aI v :: st) h := ex_st cal (s := s_ild 1 42) rfl rfl
theorem u_R_here_42 : ex cal k_R_here 42 (ls) (aI j :: aI i :: st) h = ex cal k_R_here 43 (ls) (aI (wshl i j) :: st) h := e_bin cal rfl
theorem u_R_here_43 : ex cal k_R_here 43 (ls) (aI j :: aI i :: st) h = ex cal k_R_here 44 (ls) (aI (wxor i j) :: st) h := e_bin cal rfl
theorem u_R_here_44 (h3 : 3 ≤ a) : ex cal k_R_here 44 (ls) (aI v :: aI i :: aQ (some a) :: st) h = gA h a i (ex cal k_R_here 45 (ls) (st) (sa h a (upf (ai h a) (wr i) v))) := e_ias cal rfl h3
theorem u_R_here_45 : ex cal k_R_here 45 (aQ r :: ls) (st) h = ex cal k_R_here 46 (aQ r :: ls) (aQ r :: st) h := ex_st cal (s := s_ald 0 46) rfl rfl
theorem u_R_here_46 : ex cal k_R_here 46 (x0 :: x1 :: x2 :: aI v :: ls) (st) h = ex cal k_R_here 47 (x0 :: x1 :: x2 :: aI v :: ls) (aI v :: st) h := ex_st cal (s := s_ild 3 47) rfl rfl
theorem u_R_here_47 : ex cal k_R_here 47 (ls) (aI i :: st) h = if wr i = 0 then ex cal k_R_here 54 (ls) (st) h else ex cal k_R_here 50 (ls) (st) h := e_ifeq cal rfl
theorem u_R_here_50 : ex cal k_R_here 50 (ls) (st) h = ex cal k_R_here 51 (ls) (aI 1 :: st) h := e_push cal rfl
theorem u_R_here_51 : ex cal k_R_here 51 (ls) (st) h = ex cal k_R_here 55 (ls) (st) h := ex_st cal (s := s_go 55) rfl rfl
theorem u_R_here_54 : ex cal k_R_here 54 (ls) (st) h = ex cal k_R_here 55 (ls) (aI 0 :: st) h := e_push cal rfl
theorem u_R_here_55 (hl : Nat.ble st.length 4 = true) : ex cal k_R_here 55 (ls) (aI z0 :: aQ (some a) :: st) h = gO h a 10 (kk cal k_R_here 58 ls st (cal M_R_done [aQ (some a), aI z0] h)) := e_callV cal (ci := 10) (as := [aI z0]) rfl (by decide) rfl (Nat.le_of_ble_eq_true hl)
theorem u_R_here_58 : ex cal k_R_here 58 (ls) ([aI v]) h = some (some (aI v), h) := e_ret1 cal rfl
theorem n_R_here (d : Nat) : ev (d + 1) M_R_here [aQ (some a), aI z0, aI z1] h = ex (ev d) k_R_here 0 [aQ (some a), aI z0, aI z1, aU] [] h := rfl
theorem u_R_day_0 : ex cal k_R_day 0 (x0 :: aI v :: ls) (st) h = ex cal k_R_day 1 (x0 :: aI v :: ls) (aI v :: st) h := ex_st cal (s := s_ild 1 1) rfl rfl
theorem u_R_day_1 : ex cal k_R_day 1 (ls) (aI i :: st) h = ex cal k_R_day 2 (ls) (aL (wr i) :: st) h := ex_st cal (s := s_i2l 2) rfl rfl
theorem u_R_day_2 : ex cal k_R_day 2 (ls) (st) h = ex cal k_R_day 3 (ls) (aL 0 :: st) h := e_push cal rfl
theorem u_R_day_3 : ex cal k_R_day 3 (ls) (st) h = ex cal k_R_day 6 (ls) (aL 1000 :: st) h := e_push cal rfl
theorem u_R_day_6 (hl : Nat.ble st.length 4 = true) : ex cal k_R_day 6 (ls) (aL z2 :: aL z1 :: aL z0 :: st) h = kk cal k_R_day 9 ls st (cal M_R_isIn [aL z0, aL z1, aL z2] h) := e_call cal (as := [aL z2, aL z1, aL z0]) rfl rfl (Nat.le_of_ble_eq_true hl)
theorem u_R_day_9 : ex cal k_R_day 9 (ls) (aI i :: st) h = if wr i = 0 then ex cal k_R_day 12 (ls) (st) h else ex cal k_R_day 18 (ls) (st) h := e_ifne cal rfl
theorem u_R_day_12 : ex cal k_R_day 12 (aQ r :: ls) (st) h = ex cal k_R_day 13 (aQ r :: ls) (aQ r :: st) h := ex_st cal (s := s_ald 0 13) rfl rfl
theorem u_R_day_13 : ex cal k_R_day 13 (ls) (st) h = ex cal k_R_day 14 (ls) (aI 1 :: st) h := e_push cal rfl
theorem u_R_day_14 (hl : Nat.ble st.length 4 = true) : ex cal k_R_day 14 (ls) (aI z0 :: aQ (some a) :: st) h = gO h a 10 (kk cal k_R_day 17 ls st (cal M_R_refused [aQ (some a), aI z0] h)) := e_callV cal (ci := 10) (as := [aI z0]) rfl (by decide) rfl (Nat.le_of_ble_eq_true hl)
theorem u_R_day_17 : ex cal k_R_day 17 (ls) ([aI v]) h = some (some (aI v), h) := e_ret1 cal rfl
theorem u_R_day_18 : ex cal k_R_day 18 (aQ r :: ls) (st) h = ex cal k_R_day 19 (aQ r :: ls) (aQ r :: st) h := ex_st cal (s := s_ald 0 19) rfl rfl
theorem u_R_day_19 : ex cal k_R_day 19 (ls) (aQ (some a) :: st) h = gO h a 10 (ex cal k_R_day 22 (ls) (gf h a 14 :: st) h) := e_gf cal rfl
theorem u_R_day_22 : ex cal k_R_day 22 (ls) (st) h = ex cal k_R_day 23 (ls) (aI 4 :: st) h := e_push cal rfl
theorem u_R_day_23 : ex cal k_R_day 23 (ls) (aI i :: aQ (some a) :: st) h = gA h a i (ex cal k_R_day 24 (ls) (aI (ai h a (wr i)) :: st) h) := e_ia cal rfl
theorem u_R_day_24 : ex cal k_R_day 24 (x0 :: aI v :: ls) (st) h = ex cal k_R_day 25 (x0 :: aI v :: ls) (aI v :: st) h := ex_st cal (s := s_ild 1 25) rfl rfl
theorem u_R_day_25 : ex cal k_R_day 25 (ls) (aI j :: aI i :: st) h = ex cal k_R_day 26 (ls) (aI (i + j) :: st) h := e_bin cal rfl
theorem u_R_day_26 : ex cal k_R_day 26 (ls) (st) h = ex cal k_R_day 28 (ls) (aI 100000 :: st) h := e_push cal rfl
theorem u_R_day_28 : ex cal k_R_day 28 (ls) (aI j :: aI i :: st) h = if wr j < wr i then ex cal k_R_day 31 (ls) (st) h else ex cal k_R_day 37 (ls) (st) h := e_icle cal rfl
theorem u_R_day_31 : ex cal k_R_day 31 (aQ r :: ls) (st) h = ex cal k_R_day 32 (aQ r :: ls) (aQ r :: st) h := ex_st cal (s := s_ald 0 32) rfl rfl
theorem u_R_day_32 : ex cal k_R_day 32 (ls) (st) h = ex cal k_R_day 33 (ls) (aI 2 :: st) h := e_push cal rfl
theorem u_R_day_33 (hl : Nat.ble st.length 4 = true) : ex cal k_R_day 33 (ls) (aI z0 :: aQ (some a) :: st) h = gO h a 10 (kk cal k_R_day 36 ls st (cal M_R_refused [aQ (some a), aI z0] h)) := e_callV cal (ci := 10) (as := [aI z0]) rfl (by decide) rfl (Nat.le_of_ble_eq_true hl)
theorem u_R_day_36 : ex cal k_R_day 36 (ls) ([aI v]) h = some (some (aI v), h) := e_ret1 cal rfl
theorem u_R_day_37 : ex cal k_R_day 37 (aQ r :: ls) (st) h = ex cal k_R_day 38 (aQ r :: ls) (aQ r :: st) h := ex_st cal (s := s_ald 0 38) rfl rfl
theorem u_R_day_38 : ex cal k_R_day 38 (ls) (aQ (some a) :: st) h = gO h a 10 (ex cal k_R_day 41 (ls) (gf h a 14 :: st) h) := e_gf cal rfl
theorem u_R_day_41 : ex cal k_R_day 41 (ls) (st) h = ex cal k_R_day 42 (ls) (aI 4 :: st) h := e_push cal rfl
theorem u_R_day_42 (hx : aNl y = true) (hy : aNl y2 = true) : ex cal k_R_day 42 (ls) (y :: y2 :: st) h = ex cal k_R_day 43 (ls) (y :: y2 :: y :: y2 :: st) h := e_dup2 rfl hx hy
theorem u_R_day_43 : ex cal k_R_day 43 (ls) (aI i :: aQ (some a) :: st) h = gA h a i (ex cal k_R_day 44 (ls) (aI (ai h a (wr i)) :: st) h) := e_ia cal rfl
theorem u_R_day_44 : ex cal k_R_day 44 (x0 :: aI v :: ls) (st) h = ex cal k_R_day 45 (x0 :: aI v :: ls) (aI v :: st) h := ex_st cal (s := s_ild 1 45) rfl rfl
theorem u_R_day_45 : ex cal k_R_day 45 (ls) (aI j :: aI i :: st) h = ex cal k_R_day 46 (ls) (aI (i + j) :: st) h := e_bin cal rfl
theorem u_R_day_46 (h3 : 3 ≤ a) : ex cal k_R_day 46 (ls) (aI v :: aI i :: aQ (some a) :: st) h = gA h a i (ex cal k_R_day 47 (ls) (st) (sa h a (upf (ai h a) (wr i) v))) := e_ias cal rfl h3
theorem u_R_day_47 : ex cal k_R_day 47 (aQ r :: ls) (st) h = ex cal k_R_day 48 (aQ r :: ls) (aQ r :: st) h := ex_st cal (s := s_ald 0 48) rfl rfl
theorem u_R_day_48 : ex cal k_R_day 48 (aQ r :: ls) (st) h = ex cal k_R_day 49 (aQ r :: ls) (aQ r :: st) h := ex_st cal (s := s_ald 0 49) rfl rfl
theorem u_R_day_49 : ex cal k_R_day 49 (ls) (aQ (some a) :: st) h = gO h a 10 (ex cal k_R_day 52 (ls) (gf h a 14 :: st) h) := e_gf cal rfl
theorem u_R_day_52 : ex cal k_R_day 52 (ls) (st) h = ex cal k_R_day 53 (ls) (aI 4 :: st) h := e_push cal rfl
theorem u_R_day_53 : ex cal k_R_day 53 (ls) (aI i :: aQ (some a) :: st) h = gA h a i (ex cal k_R_day 54 (ls) (aI (ai h a (wr i)) :: st) h) := e_ia cal rfl
theorem u_R_day_54 (hl : Nat.ble st.length 4 = true) : ex cal k_R_day 54 (ls) (aI z0 :: aQ (some a) :: st) h = gO h a 10 (kk cal k_R_day 57 ls st (cal M_R_done [aQ (some a), aI z0] h)) := e_callV cal (ci := 10) (as := [aI z0]) rfl (by decide) rfl (Nat.le_of_ble_eq_true hl)
theorem u_R_day_57 : ex cal k_R_day 57 (ls) ([aI v]) h = some (some (aI v), h) := e_ret1 cal rfl
theorem n_R_day (d : Nat) : ev (d + 1) M_R_day [aQ (some a), aI z0] h = ex (ev d) k_R_day 0 [aQ (some a), aI z0] [] h := rfl
theorem u_R_share_0 : ex cal k_R_share 0 (x0 :: aI v :: ls) (st) h = ex cal k_R_share 1 (x0 :: aI v :: ls) (aI v :: st) h := ex_st cal (s := s_ild 1 1) rfl rfl
theorem u_R_share_1 : ex cal k_R_share 1 (ls) (aI i :: st) h = ex cal k_R_share 2 (ls) (aL (wr i) :: st) h := ex_st cal (s := s_i2l 2) rfl rfl
theorem u_R_share_2 : ex cal k_R_share 2 (ls) (st) h = ex cal k_R_share 3 (ls) (aL 1 :: st) h := e_push cal rfl
theorem u_R_share_3 : ex cal k_R_share 3 (ls) (st) h = ex cal k_R_share 6 (ls) (aL 100 :: st) h := e_push cal rfl
theorem u_R_share_6 (hl : Nat.ble st.length 4 = true) : ex cal k_R_share 6 (ls) (aL z2 :: aL z1 :: aL z0 :: st) h = kk cal k_R_share 9 ls st (cal M_R_isIn [aL z0, aL z1, aL z2] h) := e_call cal (as := [aL z2, aL z1, aL z0]) rfl rfl (Nat.le_of_ble_eq_true hl)
theorem u_R_share_9 : ex cal k_R_share 9 (ls) (aI i :: st) h = if wr i = 0 then ex cal k_R_share 12 (ls) (st) h else ex cal k_R_share 18 (ls) (st) h := e_ifne cal rfl
theorem u_R_share_12 : ex cal k_R_share 12 (aQ r :: ls) (st) h = ex cal k_R_share 13 (aQ r :: ls) (aQ r :: st) h := ex_st cal (s := s_ald 0 13) rfl rfl
theorem u_R_share_13 : ex cal k_R_share 13 (ls) (st) h = ex cal k_R_share 14 (ls) (aI 1 :: st) h := e_push cal rfl
theorem u_R_share_14 (hl : Nat.ble st.length 4 = true) : ex cal k_R_share 14 (ls) (aI z0 :: aQ (some a) :: st) h = gO h a 10 (kk cal k_R_share 17 ls st (cal M_R_refused [aQ (some a), aI z0] h)) := e_callV cal (ci := 10) (as := [aI z0]) rfl (by decide) rfl (Nat.le_of_ble_eq_true hl)
theorem u_R_share_17 : ex cal k_R_share 17 (ls) ([aI v]) h = some (some (aI v), h) := e_ret1 cal rfl
theorem u_R_share_18 : ex cal k_R_share 18 (aQ r :: ls) (st) h = ex cal k_R_share 19 (aQ r :: ls) (aQ r :: st) h := ex_st cal (s := s_ald 0 19) rfl rfl
theorem u_R_share_19 : ex cal k_R_share 19 (ls) (aQ (some a) :: st) h = gO h a 10 (ex cal k_R_share 22 (ls) (gf h a 14 :: st) h) := e_gf cal rfl
theorem u_R_share_22 : ex cal k_R_share 22 (ls) (st) h = ex cal k_R_share 23 (ls) (aI 5 :: st) h := e_push cal rfl
theorem u_R_share_23 : ex cal k_R_share 23 (ls) (aI i :: aQ (some a) :: st) h = gA h a i (ex cal k_R_share 24 (ls) (aI (ai h a (wr i)) :: st) h) := e_ia cal rfl
theorem u_R_share_24 (hx : aNl x1 = true) : ex cal k_R_share 24 (x0 :: x1 :: y :: ls) (aI v :: st) h = ex cal k_R_share 25 (x0 :: x1 :: aI v :: ls) (st) h := e_ist (ls := x0 :: x1 :: y :: ls) (k := 2) rfl hx (by simp only [List.length_cons]; omega)
theorem u_R_share_25 : ex cal k_R_share 25 (aQ r :: ls) (st) h = ex cal k_R_share 26 (aQ r :: ls) (aQ r :: st) h := ex_st cal (s := s_ald 0 26) rfl rfl
theorem u_R_share_26 : ex cal k_R_share 26 (ls) (aQ (some a) :: st) h = gO h a 10 (ex cal k_R_share 29 (ls) (gf h a 14 :: st) h) := e_gf cal rfl
theorem u_R_share_29 : ex cal k_R_share 29 (ls) (st) h = ex cal k_R_share 30 (ls) (aI 5 :: st) h := e_push cal rfl
theorem u_R_share_30 : ex cal k_R_share 30 (x0 :: aI v :: ls) (st) h = ex cal k_R_share 31 (x0 :: aI v :: ls) (aI v :: st) h := ex_st cal (s := s_ild 1 31) rfl rfl
theorem u_R_share_31 (h3 : 3 ≤ a) : ex cal k_R_share 31 (ls) (aI v :: aI i :: aQ (some a) :: st) h = gA h a i (ex cal k_R_share 32 (ls) (st) (sa h a (upf (ai h a) (wr i) v))) := e_ias cal rfl h3
theorem u_R_share_32 : ex cal k_R_share 32 (aQ r :: ls) (st) h = ex cal k_R_share 33 (aQ r :: ls) (aQ r :: st) h := ex_st cal (s := s_ald 0 33) rfl rfl
theorem u_R_share_33 : ex cal k_R_share 33 (x0 :: x1 :: aI v :: ls) (st) h = ex cal k_R_share 34 (x0 :: x1 :: aI v :: ls) (aI v :: st) h := ex_st cal (s := s_ild 2 34) rfl rfl
theorem u_R_share_34 (hl : Nat.ble st.length 4 = true) : ex cal k_R_share 34 (ls) (aI z0 :: aQ (some a) :: st) h = gO h a 10 (kk cal k_R_share 37 ls st (cal M_R_done [aQ (some a), aI z0] h)) := e_callV cal (ci := 10) (as := [aI z0]) rfl (by decide) rfl (Nat.le_of_ble_eq_true hl)
theorem u_R_share_37 : ex cal k_R_share 37 (ls) ([aI v]) h = some (some (aI v), h) := e_ret1 cal rfl
theorem n_R_share (d : Nat) : ev (d + 1) M_R_share [aQ (some a), aI z0] h = ex (ev d) k_R_share 0 [aQ (some a), aI z0, aU] [] h := rfl
theorem u_R_text_0 : ex cal k_R_text 0 (x0 :: aI v :: ls) (st) h = ex cal k_R_text 1 (x0 :: aI v :: ls) (aI v :: st) h := ex_st cal (s := s_ild 1 1) rfl rfl
theorem u_R_text_1 : ex cal k_R_text 1 (ls) (aI i :: st) h = ex cal k_R_text 2 (ls) (aL (wr i) :: st) h := ex_st cal (s := s_i2l 2) rfl rfl
theorem u_R_text_2 : ex cal k_R_text 2 (ls) (st) h = ex cal k_R_text 5 (ls) (aL 10 :: st) h := e_push cal rfl
theorem u_R_text_5 : ex cal k_R_text 5 (ls) (st) h = ex cal k_R_text 8 (ls) (aL 9999 :: st) h := e_push cal rfl
theorem u_R_text_8 (hl : Nat.ble st.length 4 = true) : ex cal k_R_text 8 (ls) (aL z2 :: aL z1 :: aL z0 :: st) h = kk cal k_R_text 11 ls st (cal M_R_isIn [aL z0, aL z1, aL z2] h) := e_call cal (as := [aL z2, aL z1, aL z0]) rfl rfl (Nat.le_of_ble_eq_true hl)
theorem u_R_text_11 : ex cal k_R_text 11 (ls) (aI i :: st) h = if wr i = 0 then ex cal k_R_text 14 (ls) (st) h else ex cal k_R_text 20 (ls) (st) h := e_ifne cal rfl
theorem u_R_text_14 : ex cal k_R_text 14 (aQ r :: ls) (st) h = ex cal k_R_text 15 (aQ r :: ls) (aQ r :: st) h := ex_st cal (s := s_ald 0 15) rfl rfl
theorem u_R_text_15 : ex cal k_R_text 15 (ls) (st) h = ex cal k_R_text 16 (ls) (aI 1 :: st) h := e_push cal rfl
theorem u_R_text_16 (hl : Nat.ble st.length 4 = true) : ex cal k_R_text 16 (ls) (aI z0 :: aQ (some a) :: st) h = gO h a 10 (kk cal k_R_text 19 ls st (cal M_R_refused [aQ (some a), aI z0] h)) := e_callV cal (ci := 10) (as := [aI z0]) rfl (by decide) rfl (Nat.le_of_ble_eq_true hl)
theorem u_R_text_19 : ex cal k_R_text 19 (ls) ([aI v]) h = some (some (aI v), h) := e_ret1 cal rfl
theorem u_R_text_20 : ex cal k_R_text 20 (aQ r :: ls) (st) h = ex cal k_R_text 21 (aQ r :: ls) (aQ r :: st) h := ex_st cal (s := s_ald 0 21) rfl rfl
theorem u_R_text_21 : ex cal k_R_text 21 (ls) (aQ (some a) :: st) h = gO h a 10 (ex cal k_R_text 24 (ls) (gf h a 14 :: st) h) := e_gf cal rfl
theorem u_R_text_24 : ex cal k_R_text 24 (ls) (st) h = ex cal k_R_text 25 (ls) (aI 2 :: st) h := e_push cal rfl
theorem u_R_text_25 : ex cal k_R_text 25 (ls) (aI i :: aQ (some a) :: st) h = gA h a i (ex cal k_R_text 26 (ls) (aI (ai h a (wr i)) :: st) h) := e_ia cal rfl
theorem u_R_text_26 : ex cal k_R_text 26 (ls) (st) h = ex cal k_R_text 28 (ls) (aI 20 :: st) h := e_push cal rfl
theorem u_R_text_28 : ex cal k_R_text 28 (ls) (aI j :: aI i :: st) h = if wr i = wr j then ex cal k_R_text 31 (ls) (st) h else ex cal k_R_text 37 (ls) (st) h := e_icne cal rfl
theorem u_R_text_31 : ex cal k_R_text 31 (aQ r :: ls) (st) h = ex cal k_R_text 32 (aQ r :: ls) (aQ r :: st) h := ex_st cal (s := s_ald 0 32) rfl rfl
theorem u_R_text_32 : ex cal k_R_text 32 (ls) (st) h = ex cal k_R_text 33 (ls) (aI 2 :: st) h := e_push cal rfl
theorem u_R_text_33 (hl : Nat.ble st.length 4 = true) : ex cal k_R_text 33 (ls) (aI z0 :: aQ (some a) :: st) h = gO h a 10 (kk cal k_R_text 36 ls st (cal M_R_refused [aQ (some a), aI z0] h)) := e_callV cal (ci := 10) (as := [aI z0]) rfl (by decide) rfl (Nat.le_of_ble_eq_true hl)
theorem u_R_text_36 : ex cal k_R_text 36 (ls) ([aI v]) h = some (some (aI v), h) := e_ret1 cal rfl
theorem u_R_text_37 : ex cal k_R_text 37 (aQ r :: ls) (st) h = ex cal k_R_text 38 (aQ r :: ls) (aQ r :: st) h := ex_st cal (s := s_ald 0 38) rfl rfl
theorem u_R_text_38 : ex cal k_R_text 38 (ls) (aQ (some a) :: st) h = gO h a 10 (ex cal k_R_text 41 (ls) (gf h a 13 :: st) h) := e_gf cal rfl
theorem u_R_text_41 : ex cal k_R_text 41 (aQ r :: ls) (st) h = ex cal k_R_text 42 (aQ r :: ls) (aQ r :: st) h := ex_st cal (s := s_ald 0 42) rfl rfl
theorem u_R_text_42 : ex cal k_R_text 42 (ls) (aQ (some a) :: st) h = gO h a 10 (ex cal k_R_text 45 (ls) (gf h a 14 :: st) h) := e_gf cal rfl
theorem u_R_text_45 : ex cal k_R_text 45 (ls) (st) h = ex cal k_R_text 46 (ls) (aI 2 :: st) h := e_push cal rfl
theorem u_R_text_46 : ex cal k_R_text 46 (ls) (aI i :: aQ (some a) :: st) h = gA h a i (ex cal k_R_text 47 (ls) (aI (ai h a (wr i)) :: st) h) := e_ia cal rfl
theorem u_R_text_47 : ex cal k_R_text 47 (x0 :: aI v :: ls) (st) h = ex cal k_R_text 48 (x0 :: aI v :: ls) (aI v :: st) h := ex_st cal (s := s_ild 1 48) rfl rfl
theorem u_R_text_48 (h3 : 3 ≤ a) : ex cal k_R_text 48 (ls) (aI v :: aI i :: aQ (some a) :: st) h = gA h a i (ex cal k_R_text 49 (ls) (st) (sa h a (upf (ai h a) (wr i) v))) := e_ias cal rfl h3
theorem u_R_text_49 : ex cal k_R_text 49 (aQ r :: ls) (st) h = ex cal k_R_text 50 (aQ r :: ls) (aQ r :: st) h := ex_st cal (s := s_ald 0 50) rfl rfl
theorem u_R_text_50 : ex cal k_R_text 50 (ls) (aQ (some a) :: st) h = gO h a 10 (ex cal k_R_text 53 (ls) (gf h a 14 :: st) h) := e_gf cal rfl
theorem u_R_text_53 : ex cal k_R_text 53 (ls) (st) h = ex cal k_R_text 54 (ls) (aI 2 :: st) h := e_push cal rfl
theorem u_R_text_54 (hx : aNl y = true) (hy : aNl y2 = true) : ex cal k_R_text 54 (ls) (y :: y2 :: st) h = ex cal k_R_text 55 (ls) (y :: y2 :: y :: y2 :: st) h := e_dup2 rfl hx hy
theorem u_R_text_55 : ex cal k_R_text 55 (ls) (aI i :: aQ (some a) :: st) h = gA h a i (ex cal k_R_text 56 (ls) (aI (ai h a (wr i)) :: st) h) := e_ia cal rfl
theorem u_R_text_56 : ex cal k_R_text 56 (ls) (st) h = ex cal k_R_text 57 (ls) (aI 1 :: st) h := e_push cal rfl
theorem u_R_text_57 : ex cal k_R_text 57 (ls) (aI j :: aI i :: st) h = ex cal k_R_text 58 (ls) (aI (i + j) :: st) h := e_bin cal rfl
theorem u_R_text_58 (h3 : 3 ≤ a) : ex cal k_R_text 58 (ls) (aI v :: aI i :: aQ (some a) :: st) h = gA h a i (ex cal k_R_text 59 (ls) (st) (sa h a (upf (ai h a) (wr i) v))) := e_ias cal rfl h3
theorem u_R_text_59 : ex cal k_R_text 59 (aQ r :: ls) (st) h = ex cal k_R_text 60 (aQ r :: ls) (aQ r :: st) h := ex_st cal (s := s_ald 0 60) rfl rfl
theorem u_R_text_60 : ex cal k_R_text 60 (aQ r :: ls) (st) h = ex cal k_R_text 61 (aQ r :: ls) (aQ r :: st) h := ex_st cal (s := s_ald 0 61) rfl rfl
theorem u_R_text_61 : ex cal k_R_text 61 (ls) (aQ (some a) :: st) h = gO h a 10 (ex cal k_R_text 64 (ls) (gf h a 14 :: st) h) := e_gf cal rfl
theorem u_R_text_64 : ex cal k_R_text 64 (ls) (st) h = ex cal k_R_text 65 (ls) (aI 2 :: st) h := e_push cal rfl
theorem u_R_text_65 : ex cal k_R_text 65 (ls) (aI i :: aQ (some a) :: st) h = gA h a i (ex cal k_R_text 66 (ls) (aI (ai h a (wr i)) :: st) h) := e_ia cal rfl
theorem u_R_text_66 (hl : Nat.ble st.length 4 = true) : ex cal k_R_text 66 (ls) (aI z0 :: aQ (some a) :: st) h = gO h a 10 (kk cal k_R_text 69 ls st (cal M_R_done [aQ (some a), aI z0] h)) := e_callV cal (ci := 10) (as := [aI z0]) rfl (by decide) rfl (Nat.le_of_ble_eq_true hl)
theorem u_R_text_69 : ex cal k_R_text 69 (ls) ([aI v]) h = some (some (aI v), h) := e_ret1 cal rfl
theorem n_R_text (d : Nat) : ev (d + 1) M_R_text [aQ (some a), aI z0] h = ex (ev d) k_R_text 0 [aQ (some a), aI z0] [] h := rfl
theorem u_R_wipe_0 : ex cal k_R_wipe 0 (aQ r :: ls) (st) h = ex cal k_R_wipe 1 (aQ r :: ls) (aQ r :: st) h := ex_st cal (s := s_ald 0 1) rfl rfl
theorem u_R_wipe_1 : ex cal k_R_wipe 1 (ls) (aQ (some a) :: st) h = gO h a 10 (ex cal k_R_wipe 4 (ls) (gf h a 14 :: st) h) := e_gf cal rfl
theorem u_R_wipe_4 : ex cal k_R_wipe 4 (ls) (st) h = ex cal k_R_wipe 5 (ls) (aI 2 :: st) h := e_push cal rfl
theorem u_R_wipe_5 : ex cal k_R_wipe 5 (ls) (aI i :: aQ (some a) :: st) h = gA h a i (ex cal k_R_wipe 6 (ls) (aI (ai h a (wr i)) :: st) h) := e_ia cal rfl
theorem u_R_wipe_6 (hx : aNl x0 = true) : ex cal k_R_wipe 6 (x0 :: y :: ls) (aI v :: st) h = ex cal k_R_wipe 7 (x0 :: aI v :: ls) (st) h := e_ist (ls := x0 :: y :: ls) (k := 1) rfl hx (by simp only [List.length_cons]; omega)
theorem u_R_wipe_7 : ex cal k_R_wipe 7 (aQ r :: ls) (st) h = ex cal k_R_wipe 8 (aQ r :: ls) (aQ r :: st) h := ex_st cal (s := s_ald 0 8) rfl rfl
theorem u_R_wipe_8 : ex cal k_R_wipe 8 (ls) (aQ (some a) :: st) h = gO h a 10 (ex cal k_R_wipe 11 (ls) (gf h a 14 :: st) h) := e_gf cal rfl
theorem u_R_wipe_11 : ex cal k_R_wipe 11 (ls) (st) h = ex cal k_R_wipe 12 (ls) (aI 2 :: st) h := e_push cal rfl
theorem u_R_wipe_12 : ex cal k_R_wipe 12 (ls) (st) h = ex cal k_R_wipe 13 (ls) (aI 0 :: st) h := e_push cal rfl
theorem u_R_wipe_13 (h3 : 3 ≤ a) : ex cal k_R_wipe 13 (ls) (aI v :: aI i :: aQ (some a) :: st) h = gA h a i (ex cal k_R_wipe 14 (ls) (st) (sa h a (upf (ai h a) (wr i) v))) := e_ias cal rfl h3
theorem u_R_wipe_14 : ex cal k_R_wipe 14 (aQ r :: ls) (st) h = ex cal k_R_wipe 15 (aQ r :: ls) (aQ r :: st) h := ex_st cal (s := s_ald 0 15) rfl rfl
theorem u_R_wipe_15 : ex cal k_R_wipe 15 (x0 :: aI v :: ls) (st) h = ex cal k_R_wipe 16 (x0 :: aI v :: ls) (aI v :: st) h := ex_st cal (s := s_ild 1 16) rfl rfl
theorem u_R_wipe_16 (hl : Nat.ble st.length 4 = true) : ex cal k_R_wipe 16 (ls) (aI z0 :: aQ (some a) :: st) h = gO h a 10 (kk cal k_R_wipe 19 ls st (cal M_R_done [aQ (some a), aI z0] h)) := e_callV cal (ci := 10) (as := [aI z0]) rfl (by decide) rfl (Nat.le_of_ble_eq_true hl)
theorem u_R_wipe_19 : ex cal k_R_wipe 19 (ls) ([aI v]) h = some (some (aI v), h) := e_ret1 cal rfl
theorem n_R_wipe (d : Nat) : ev (d + 1) M_R_wipe [aQ (some a)] h = ex (ev d) k_R_wipe 0 [aQ (some a), aU] [] h := rfl
theorem u_R_areAlike_0 : ex cal k_R_areAlike 0 (x0 :: x1 :: x2 :: aI v :: ls) (st) h = ex cal k_R_areAlike 1 (x0 :: x1 :: x2 :: aI v :: ls) (aI v :: st) h := ex_st cal (s := s_ild 3 1) rfl rfl
theorem u_R_areAlike_1 : ex cal k_R_areAlike 1 (ls) (aI i :: st) h = if wr i = 0 then ex cal k_R_areAlike 23 (ls) (st) h else ex cal k_R_areAlike 4 (ls) (st) h := e_ifeq cal rfl
theorem u_R_areAlike_4 : ex cal k_R_areAlike 4 (x0 :: aI v :: ls) (st) h = ex cal k_R_areAlike 5 (x0 :: aI v :: ls) (aI v :: st) h := ex_st cal (s := s_ild 1 5) rfl rfl
theorem u_R_areAlike_5 : ex cal k_R_areAlike 5 (ls) (st) h = ex cal k_R_areAlike 7 (ls) (aI 10 :: st) h := e_push cal rfl
theorem u_R_areAlike_7 (h0 : j ≠ 0) (h1 : -2147483648 ≤ j) (h2 : j < 2147483648) : ex cal k_R_areAlike 7 (ls) (aI j :: aI i :: st) h = ex cal k_R_areAlike 8 (ls) (aI ((wr i).tdiv j) :: st) h := e_div2 rfl h0 h1 h2
theorem u_R_areAlike_8 : ex cal k_R_areAlike 8 (x0 :: x1 :: aI v :: ls) (st) h = ex cal k_R_areAlike 9 (x0 :: x1 :: aI v :: ls) (aI v :: st) h := ex_st cal (s := s_ild 2 9) rfl rfl
theorem u_R_areAlike_9 : ex cal k_R_areAlike 9 (ls) (st) h = ex cal k_R_areAlike 11 (ls) (aI 10 :: st) h := e_push cal rfl
theorem u_R_areAlike_11 (h0 : j ≠ 0) (h1 : -2147483648 ≤ j) (h2 : j < 2147483648) : ex cal k_R_areAlike 11 (ls) (aI j :: aI i :: st) h = ex cal k_R_areAlike 12 (ls) (aI ((wr i).tdiv j) :: st) h := e_div2 rfl h0 h1 h2
theorem u_R_areAlike_12 : ex cal k_R_areAlike 12 (ls) (aI j :: aI i :: st) h = if wr i = wr j then ex cal k_R_areAlike 15 (ls) (st) h else ex cal k_R_areAlike 19 (ls) (st) h := e_icne cal rfl
theorem u_R_areAlike_15 : ex cal k_R_areAlike 15 (ls) (st) h = ex cal k_R_areAlike 16 (ls) (aI 1 :: st) h := e_push cal rfl
theorem u_R_areAlike_16 : ex cal k_R_areAlike 16 (ls) (st) h = ex cal k_R_areAlike 33 (ls) (st) h := ex_st cal (s := s_go 33) rfl rfl
theorem u_R_areAlike_19 : ex cal k_R_areAlike 19 (ls) (st) h = ex cal k_R_areAlike 20 (ls) (aI 0 :: st) h := e_push cal rfl
theorem u_R_areAlike_20 : ex cal k_R_areAlike 20 (ls) (st) h = ex cal k_R_areAlike 33 (ls) (st) h := ex_st cal (s := s_go 33) rfl rfl
theorem u_R_areAlike_23 : ex cal k_R_areAlike 23 (x0 :: aI v :: ls) (st) h = ex cal k_R_areAlike 24 (x0 :: aI v :: ls) (aI v :: st) h := ex_st cal (s := s_ild 1 24) rfl rfl
theorem u_R_areAlike_24 : ex cal k_R_areAlike 24 (x0 :: x1 :: aI v :: ls) (st) h = ex cal k_R_areAlike 25 (x0 :: x1 :: aI v :: ls) (aI v :: st) h := ex_st cal (s := s_ild 2 25) rfl rfl
theorem u_R_areAlike_25 : ex cal k_R_areAlike 25 (ls) (aI j :: aI i :: st) h = if wr i = wr j then ex cal k_R_areAlike 28 (ls) (st) h else ex cal k_R_areAlike 32 (ls) (st) h := e_icne cal rfl
theorem u_R_areAlike_28 : ex cal k_R_areAlike 28 (ls) (st) h = ex cal k_R_areAlike 29 (ls) (aI 1 :: st) h := e_push cal rfl
theorem u_R_areAlike_29 : ex cal k_R_areAlike 29 (ls) (st) h = ex cal k_R_areAlike 33 (ls) (st) h := ex_st cal (s := s_go 33) rfl rfl
theorem u_R_areAlike_32 : ex cal k_R_areAlike 32 (ls) (st) h = ex cal k_R_areAlike 33 (ls) (aI 0 :: st) h := e_push cal rfl
theorem u_R_areAlike_33 (hv : v = 0 ∨ v = 1) : ex cal k_R_areAlike 33 (ls) ([aI v]) h = some (some (aI v), h) := e_ret22 rfl hv
theorem n_R_areAlike (d : Nat) : ev (d + 1) M_R_areAlike [aQ (some a), aI z0, aI z1, aI z2] h = ex (ev d) k_R_areAlike 0 [aQ (some a), aI z0, aI z1, aI z2] [] h := rfl
theorem u_R_textAt_0 : ex cal k_R_textAt 0 (aQ r :: ls) (st) h = ex cal k_R_textAt 1 (aQ r :: ls) (aQ r :: st) h := ex_st cal (s := s_ald 0 1) rfl rfl
theorem u_R_textAt_1 : ex cal k_R_textAt 1 (ls) (aQ (some a) :: st) h = gO h a 10 (ex cal k_R_textAt 4 (ls) (gf h a 0 :: st) h) := e_gf cal rfl
theorem u_R_textAt_4 : ex cal k_R_textAt 4 (ls) (st) h = ex cal k_R_textAt 7 (ls) (aI 540 :: st) h := e_push cal rfl
theorem u_R_textAt_7 : ex cal k_R_textAt 7 (x0 :: aI v :: ls) (st) h = ex cal k_R_textAt 8 (x0 :: aI v :: ls) (aI v :: st) h := ex_st cal (s := s_ild 1 8) rfl rfl
theorem u_R_textAt_8 : ex cal k_R_textAt 8 (ls) (aI j :: aI i :: st) h = ex cal k_R_textAt 9 (ls) (aI (i * j) :: st) h := e_bin cal rfl
theorem u_R_textAt_9 : ex cal k_R_textAt 9 (ls) (st) h = ex cal k_R_textAt 11 (ls) (aI 27 :: st) h := e_push cal rfl
theorem u_R_textAt_11 : ex cal k_R_textAt 11 (x0 :: x1 :: aI v :: ls) (st) h = ex cal k_R_textAt 12 (x0 :: x1 :: aI v :: ls) (aI v :: st) h := ex_st cal (s := s_ild 2 12) rfl rfl
theorem u_R_textAt_12 : ex cal k_R_textAt 12 (ls) (aI j :: aI i :: st) h = ex cal k_R_textAt 13 (ls) (aI (i * j) :: st) h := e_bin cal rfl
theorem u_R_textAt_13 : ex cal k_R_textAt 13 (ls) (aI j :: aI i :: st) h = ex cal k_R_textAt 14 (ls) (aI (i + j) :: st) h := e_bin cal rfl
theorem u_R_textAt_14 : ex cal k_R_textAt 14 (ls) (aI i :: aQ (some a) :: st) h = gA h a i (ex cal k_R_textAt 15 (ls) (aI (ai h a (wr i)) :: st) h) := e_ia cal rfl
theorem u_R_textAt_15 : ex cal k_R_textAt 15 (ls) ([aI v]) h = some (some (aI v), h) := e_ret1 cal rfl
theorem n_R_textAt (d : Nat) : ev (d + 1) M_R_textAt [aQ (some a), aI z0, aI z1] h = ex (ev d) k_R_textAt 0 [aQ (some a), aI z0, aI z1] [] h := rfl
theorem u_R_pairs_0 : ex cal k_R_pairs 0 (aQ r :: ls) (st) h = ex cal k_R_pairs 1 (aQ r :: ls) (aQ r :: st) h := ex_st cal (s := s_ald 0 1) rfl rfl
theorem u_R_pairs_1 : ex cal k_R_pairs 1 (ls) (aQ (some a) :: st) h = gO h a 10 (ex cal k_R_pairs 4 (ls) (gf h a 1 :: st) h) := e_gf cal rfl
theorem u_R_pairs_4 : ex cal k_R_pairs 4 (x0 :: aI v :: ls) (st) h = ex cal k_R_pairs 5 (x0 :: aI v :: ls) (aI v :: st) h := ex_st cal (s := s_ild 1 5) rfl rfl
theorem u_R_pairs_5 : ex cal k_R_pairs 5 (ls) (aI i :: aQ (some a) :: st) h = gA h a i (ex cal k_R_pairs 6 (ls) (aI (ai h a (wr i)) :: st) h) := e_ia cal rfl
theorem u_R_pairs_6 (hx : aNl x2 = true) : ex cal k_R_pairs 6 (x0 :: x1 :: x2 :: y :: ls) (aI v :: st) h = ex cal k_R_pairs 7 (x0 :: x1 :: x2 :: aI v :: ls) (st) h := e_ist (ls := x0 :: x1 :: x2 :: y :: ls) (k := 3) rfl hx (by simp only [List.length_cons]; omega)
theorem u_R_pairs_7 : ex cal k_R_pairs 7 (aQ r :: ls) (st) h = ex cal k_R_pairs 8 (aQ r :: ls) (aQ r :: st) h := ex_st cal (s := s_ald 0 8) rfl rfl
theorem u_R_pairs_8 : ex cal k_R_pairs 8 (ls) (aQ (some a) :: st) h = gO h a 10 (ex cal k_R_pairs 11 (ls) (gf h a 14 :: st) h) := e_gf cal rfl
theorem u_R_pairs_11 : ex cal k_R_pairs 11 (ls) (st) h = ex cal k_R_pairs 12 (ls) (aI 2 :: st) h := e_push cal rfl
theorem u_R_pairs_12 : ex cal k_R_pairs 12 (ls) (aI i :: aQ (some a) :: st) h = gA h a i (ex cal k_R_pairs 13 (ls) (aI (ai h a (wr i)) :: st) h) := e_ia cal rfl
theorem u_R_pairs_13 (hx : aNl x3 = true) : ex cal k_R_pairs 13 (x0 :: x1 :: x2 :: x3 :: y :: ls) (aI v :: st) h = ex cal k_R_pairs 15 (x0 :: x1 :: x2 :: x3 :: aI v :: ls) (st) h := e_ist (ls := x0 :: x1 :: x2 :: x3 :: y :: ls) (k := 4) rfl hx (by simp only [List.length_cons]; omega)
theorem u_R_pairs_15 : ex cal k_R_pairs 15 (x0 :: x1 :: x2 :: aI v :: ls) (st) h = ex cal k_R_pairs 16 (x0 :: x1 :: x2 :: aI v :: ls) (aI v :: st) h := ex_st cal (s := s_ild 3 16) rfl rfl
theorem u_R_pairs_16 (hx : aNl x4 = true) : ex cal k_R_pairs 16 (x0 :: x1 :: x2 :: x3 :: x4 :: y :: ls) (aI v :: st) h = ex cal k_R_pairs 18 (x0 :: x1 :: x2 :: x3 :: x4 :: aI v :: ls) (st) h := e_ist (ls := x0 :: x1 :: x2 :: x3 :: x4 :: y :: ls) (k := 5) rfl hx (by simp only [List.length_cons]; omega)
theorem u_R_pairs_18 : ex cal k_R_pairs 18 (x0 :: x1 :: x2 :: x3 :: x4 :: aI v :: ls) (st) h = ex cal k_R_pairs 20 (x0 :: x1 :: x2 :: x3 :: x4 :: aI v :: ls) (aI v :: st) h := ex_st cal (s := s_ild 5 20) rfl rfl
theorem u_R_pairs_20 : ex cal k_R_pairs 20 (ls) (aI i :: st) h = if wr i < 0 then ex cal k_R_pairs 229 (ls) (st) h else ex cal k_R_pairs 23 (ls) (st) h := e_iflt cal rfl
theorem u_R_pairs_23 : ex cal k_R_pairs 23 (x0 :: x1 :: x2 :: x3 :: aI v :: ls) (st) h = ex cal k_R_pairs 25 (x0 :: x1 :: x2 :: x3 :: aI v :: ls) (aI v :: st) h := ex_st cal (s := s_ild 4 25) rfl rfl
theorem u_R_pairs_25 (hx : aNl x5 = true) : ex cal k_R_pairs 25 (x0 :: x1 :: x2 :: x3 :: x4 :: x5 :: y :: ls) (aI v :: st) h = ex cal k_R_pairs 27 (x0 :: x1 :: x2 :: x3 :: x4 :: x5 :: aI v :: ls) (st) h := e_ist (ls := x0 :: x1 :: x2 :: x3 :: x4 :: x5 :: y :: ls) (k := 6) rfl hx (by simp only [List.length_cons]; omega)
theorem u_R_pairs_27 : ex cal k_R_pairs 27 (x0 :: x1 :: x2 :: x3 :: x4 :: x5 :: aI v :: ls) (st) h = ex cal k_R_pairs 29 (x0 :: x1 :: x2 :: x3 :: x4 :: x5 :: aI v :: ls) (aI v :: st) h := ex_st cal (s := s_ild 6 29) rfl rfl
theorem u_R_pairs_29 : ex cal k_R_pairs 29 (ls) (aI i :: st) h = if wr i < 0 then ex cal k_R_pairs 223 (ls) (st) h else ex cal k_R_pairs 32 (ls) (st) h := e_iflt cal rfl
theorem u_R_pairs_32 : ex cal k_R_pairs 32 (ls) (st) h = ex cal k_R_pairs 33 (ls) (aI 0 :: st) h := e_push cal rfl
theorem u_R_pairs_33 (hx : aNl x6 = true) : ex cal k_R_pairs 33 (x0 :: x1 :: x2 :: x3 :: x4 :: x5 :: x6 :: y :: ls) (aI v :: st) h = ex cal k_R_pairs 35 (x0 :: x1 :: x2 :: x3 :: x4 :: x5 :: x6 :: aI v :: ls) (st) h := e_ist (ls := x0 :: x1 :: x2 :: x3 :: x4 :: x5 :: x6 :: y :: ls) (k := 7) rfl hx (by simp only [List.length_cons]; omega)
theorem u_R_pairs_35 : ex cal k_R_pairs 35 (x0 :: x1 :: x2 :: x3 :: x4 :: aI v :: ls) (st) h = ex cal k_R_pairs 37 (x0 :: x1 :: x2 :: x3 :: x4 :: aI v :: ls) (aI v :: st) h := ex_st cal (s := s_ild 5 37) rfl rfl
theorem u_R_pairs_37 : ex cal k_R_pairs 37 (x0 :: x1 :: x2 :: aI v :: ls) (st) h = ex cal k_R_pairs 38 (x0 :: x1 :: x2 :: aI v :: ls) (aI v :: st) h := ex_st cal (s := s_ild 3 38) rfl rfl
theorem u_R_pairs_38 : ex cal k_R_pairs 38 (ls) (aI j :: aI i :: st) h = if wr i < wr j then ex cal k_R_pairs 41 (ls) (st) h else ex cal k_R_pairs 80 (ls) (st) h := e_icge cal rfl
theorem u_R_pairs_41 : ex cal k_R_pairs 41 (aQ r :: ls) (st) h = ex cal k_R_pairs 42 (aQ r :: ls) (aQ r :: st) h := ex_st cal (s := s_ald 0 42) rfl rfl
theorem u_R_pairs_42 : ex cal k_R_pairs 42 (ls) (aQ (some a) :: st) h = gO h a 10 (ex cal k_R_pairs 45 (ls) (gf h a 19 :: st) h) := e_gf cal rfl
theorem u_R_pairs_45 : ex cal k_R_pairs 45 (ls) (st) h = ex cal k_R_pairs 47 (ls) (aI 21 :: st) h := e_push cal rfl
theorem u_R_pairs_47 : ex cal k_R_pairs 47 (x0 :: x1 :: x2 :: x3 :: x4 :: aI v :: ls) (st) h = ex cal k_R_pairs 49 (x0 :: x1 :: x2 :: x3 :: x4 :: aI v :: ls) (aI v :: st) h := ex_st cal (s := s_ild 5 49) rfl rfl
theorem u_R_pairs_49 : ex cal k_R_pairs 49 (ls) (aI j :: aI i :: st) h = ex cal k_R_pairs 50 (ls) (aI (i * j) :: st) h := e_bin cal rfl
theorem u_R_pairs_50 : ex cal k_R_pairs 50 (ls) (st) h = ex cal k_R_pairs 52 (ls) (aI 21 :: st) h := e_push cal rfl
theorem u_R_pairs_52 : ex cal k_R_pairs 52 (ls) (aI j :: aI i :: st) h = ex cal k_R_pairs 53 (ls) (aI (i + j) :: st) h := e_bin cal rfl
theorem u_R_pairs_53 : ex cal k_R_pairs 53 (x0 :: x1 :: x2 :: x3 :: x4 :: x5 :: aI v :: ls) (st) h = ex cal k_R_pairs 55 (x0 :: x1 :: x2 :: x3 :: x4 :: x5 :: aI v :: ls) (aI v :: st) h := ex_st cal (s := s_ild 6 55) rfl rfl
theorem u_R_pairs_55 : ex cal k_R_pairs 55 (ls) (aI j :: aI i :: st) h = ex cal k_R_pairs 56 (ls) (aI (i + j) :: st) h := e_bin cal rfl
theorem u_R_pairs_56 : ex cal k_R_pairs 56 (ls) (aI i :: aQ (some a) :: st) h = gA h a i (ex cal k_R_pairs 57 (ls) (aI (ai h a (wr i)) :: st) h) := e_ia cal rfl
theorem u_R_pairs_57 : ex cal k_R_pairs 57 (x0 :: x1 :: x2 :: x3 :: x4 :: x5 :: x6 :: aI v :: ls) (st) h = ex cal k_R_pairs 59 (x0 :: x1 :: x2 :: x3 :: x4 :: x5 :: x6 :: aI v :: ls) (aI v :: st) h := ex_st cal (s := s_ild 7 59) rfl rfl
theorem u_R_pairs_59 : ex cal k_R_pairs 59 (ls) (aI j :: aI i :: st) h = if wr j < wr i then ex cal k_R_pairs 62 (ls) (st) h else ex cal k_R_pairs 80 (ls) (st) h := e_icle cal rfl
theorem u_R_pairs_62 : ex cal k_R_pairs 62 (aQ r :: ls) (st) h = ex cal k_R_pairs 63 (aQ r :: ls) (aQ r :: st) h := ex_st cal (s := s_ald 0 63) rfl rfl
theorem u_R_pairs_63 : ex cal k_R_pairs 63 (ls) (aQ (some a) :: st) h = gO h a 10 (ex cal k_R_pairs 66 (ls) (gf h a 19 :: st) h) := e_gf cal rfl
theorem u_R_pairs_66 : ex cal k_R_pairs 66 (ls) (st) h = ex cal k_R_pairs 68 (ls) (aI 21 :: st) h := e_push cal rfl
theorem u_R_pairs_68 : ex cal k_R_pairs 68 (x0 :: x1 :: x2 :: x3 :: x4 :: aI v :: ls) (st) h = ex cal k_R_pairs 70 (x0 :: x1 :: x2 :: x3 :: x4 :: aI v :: ls) (aI v :: st) h := ex_st cal (s := s_ild 5 70) rfl rfl
theorem u_R_pairs_70 : ex cal k_R_pairs 70 (ls) (aI j :: aI i :: st) h = ex cal k_R_pairs 71 (ls) (aI (i * j) :: st) h := e_bin cal rfl
theorem u_R_pairs_71 : ex cal k_R_pairs 71 (ls) (st) h = ex cal k_R_pairs 73 (ls) (aI 21 :: st) h := e_push cal rfl
theorem u_R_pairs_73 : ex cal k_R_pairs 73 (ls) (aI j :: aI i :: st) h = ex cal k_R_pairs 74 (ls) (aI (i + j) :: st) h := e_bin cal rfl
theorem u_R_pairs_74 : ex cal k_R_pairs 74 (x0 :: x1 :: x2 :: x3 :: x4 :: x5 :: aI v :: ls) (st) h = ex cal k_R_pairs 76 (x0 :: x1 :: x2 :: x3 :: x4 :: x5 :: aI v :: ls) (aI v :: st) h := ex_st cal (s := s_ild 6 76) rfl rfl
theorem u_R_pairs_76 : ex cal k_R_pairs 76 (ls) (aI j :: aI i :: st) h = ex cal k_R_pairs 77 (ls) (aI (i + j) :: st) h := e_bin cal rfl
theorem u_R_pairs_77 : ex cal k_R_pairs 77 (ls) (aI i :: aQ (some a) :: st) h = gA h a i (ex cal k_R_pairs 78 (ls) (aI (ai h a (wr i)) :: st) h) := e_ia cal rfl
theorem u_R_pairs_78 (hx : aNl x6 = true) : ex cal k_R_pairs 78 (x0 :: x1 :: x2 :: x3 :: x4 :: x5 :: x6 :: y :: ls) (aI v :: st) h = ex cal k_R_pairs 80 (x0 :: x1 :: x2 :: x3 :: x4 :: x5 :: x6 :: aI v :: ls) (st) h := e_ist (ls := x0 :: x1 :: x2 :: x3 :: x4 :: x5 :: x6 :: y :: ls) (k := 7) rfl hx (by simp only [List.length_cons]; omega)
theorem u_R_pairs_80 : ex cal k_R_pairs 80 (x0 :: x1 :: x2 :: x3 :: x4 :: x5 :: aI v :: ls) (st) h = ex cal k_R_pairs 82 (x0 :: x1 :: x2 :: x3 :: x4 :: x5 :: aI v :: ls) (aI v :: st) h := ex_st cal (s := s_ild 6 82) rfl rfl
theorem u_R_pairs_82 : ex cal k_R_pairs 82 (x0 :: x1 :: x2 :: x3 :: aI v :: ls) (st) h = ex cal k_R_pairs 84 (x0 :: x1 :: x2 :: x3 :: aI v :: ls) (aI v :: st) h := ex_st cal (s := s_ild 4 84) rfl rfl
theorem u_R_pairs_84 : ex cal k_R_pairs 84 (ls) (aI j :: aI i :: st) h = if wr i < wr j then ex cal k_R_pairs 87 (ls) (st) h else ex cal k_R_pairs 124 (ls) (st) h := e_icge cal rfl
theorem u_R_pairs_87 : ex cal k_R_pairs 87 (aQ r :: ls) (st) h = ex cal k_R_pairs 88 (aQ r :: ls) (aQ r :: st) h := ex_st cal (s := s_ald 0 88) rfl rfl
theorem u_R_pairs_88 : ex cal k_R_pairs 88 (ls) (aQ (some a) :: st) h = gO h a 10 (ex cal k_R_pairs 91 (ls) (gf h a 19 :: st) h) := e_gf cal rfl
theorem u_R_pairs_91 : ex cal k_R_pairs 91 (ls) (st) h = ex cal k_R_pairs 93 (ls) (aI 21 :: st) h := e_push cal rfl
theorem u_R_pairs_93 : ex cal k_R_pairs 93 (x0 :: x1 :: x2 :: x3 :: x4 :: aI v :: ls) (st) h = ex cal k_R_pairs 95 (x0 :: x1 :: x2 :: x3 :: x4 :: aI v :: ls) (aI v :: st) h := ex_st cal (s := s_ild 5 95) rfl rfl
theorem u_R_pairs_95 : ex cal k_R_pairs 95 (ls) (aI j :: aI i :: st) h = ex cal k_R_pairs 96 (ls) (aI (i * j) :: st) h := e_bin cal rfl
theorem u_R_pairs_96 : ex cal k_R_pairs 96 (x0 :: x1 :: x2 :: x3 :: x4 :: x5 :: aI v :: ls) (st) h = ex cal k_R_pairs 98 (x0 :: x1 :: x2 :: x3 :: x4 :: x5 :: aI v :: ls) (aI v :: st) h := ex_st cal (s := s_ild 6 98) rfl rfl
theorem u_R_pairs_98 : ex cal k_R_pairs 98 (ls) (aI j :: aI i :: st) h = ex cal k_R_pairs 99 (ls) (aI (i + j) :: st) h := e_bin cal rfl
theorem u_R_pairs_99 : ex cal k_R_pairs 99 (ls) (st) h = ex cal k_R_pairs 100 (ls) (aI 1 :: st) h := e_push cal rfl
theorem u_R_pairs_100 : ex cal k_R_pairs 100 (ls) (aI j :: aI i :: st) h = ex cal k_R_pairs 101 (ls) (aI (i + j) :: st) h := e_bin cal rfl
theorem u_R_pairs_101 : ex cal k_R_pairs 101 (ls) (aI i :: aQ (some a) :: st) h = gA h a i (ex cal k_R_pairs 102 (ls) (aI (ai h a (wr i)) :: st) h) := e_ia cal rfl
theorem u_R_pairs_102 : ex cal k_R_pairs 102 (x0 :: x1 :: x2 :: x3 :: x4 :: x5 :: x6 :: aI v :: ls) (st) h = ex cal k_R_pairs 104 (x0 :: x1 :: x2 :: x3 :: x4 :: x5 :: x6 :: aI v :: ls) (aI v :: st) h := ex_st cal (s := s_ild 7 104) rfl rfl
theorem u_R_pairs_104 : ex cal k_R_pairs 104 (ls) (aI j :: aI i :: st) h = if wr j < wr i then ex cal k_R_pairs 107 (ls) (st) h else ex cal k_R_pairs 124 (ls) (st) h := e_icle cal rfl
theorem u_R_pairs_107 : ex cal k_R_pairs 107 (aQ r :: ls) (st) h = ex cal k_R_pairs 108 (aQ r :: ls) (aQ r :: st) h := ex_st cal (s := s_ald 0 108) rfl rfl
theorem u_R_pairs_108 : ex cal k_R_pairs 108 (ls) (aQ (some a) :: st) h = gO h a 10 (ex cal k_R_pairs 111 (ls) (gf h a 19 :: st) h) := e_gf cal rfl
theorem u_R_pairs_111 : ex cal k_R_pairs 111 (ls) (st) h = ex cal k_R_pairs 113 (ls) (aI 21 :: st) h := e_push cal rfl
theorem u_R_pairs_113 : ex cal k_R_pairs 113 (x0 :: x1 :: x2 :: x3 :: x4 :: aI v :: ls) (st) h = ex cal k_R_pairs 115 (x0 :: x1 :: x2 :: x3 :: x4 :: aI v :: ls) (aI v :: st) h := ex_st cal (s := s_ild 5 115) rfl rfl
theorem u_R_pairs_115 : ex cal k_R_pairs 115 (ls) (aI j :: aI i :: st) h = ex cal k_R_pairs 116 (ls) (aI (i * j) :: st) h := e_bin cal rfl
theorem u_R_pairs_116 : ex cal k_R_pairs 116 (x0 :: x1 :: x2 :: x3 :: x4 :: x5 :: aI v :: ls) (st) h = ex cal k_R_pairs 118 (x0 :: x1 :: x2 :: x3 :: x4 :: x5 :: aI v :: ls) (aI v :: st) h := ex_st cal (s := s_ild 6 118) rfl rfl
theorem u_R_pairs_118 : ex cal k_R_pairs 118 (ls) (aI j :: aI i :: st) h = ex cal k_R_pairs 119 (ls) (aI (i + j) :: st) h := e_bin cal rfl
theorem u_R_pairs_119 : ex cal k_R_pairs 119 (ls) (st) h = ex cal k_R_pairs 120 (ls) (aI 1 :: st) h := e_push cal rfl
theorem u_R_pairs_120 : ex cal k_R_pairs 120 (ls) (aI j :: aI i :: st) h = ex cal k_R_pairs 121 (ls) (aI (i + j) :: st) h := e_bin cal rfl
theorem u_R_pairs_121 : ex cal k_R_pairs 121 (ls) (aI i :: aQ (some a) :: st) h = gA h a i (ex cal k_R_pairs 122 (ls) (aI (ai h a (wr i)) :: st) h) := e_ia cal rfl
theorem u_R_pairs_122 (hx : aNl x6 = true) : ex cal k_R_pairs 122 (x0 :: x1 :: x2 :: x3 :: x4 :: x5 :: x6 :: y :: ls) (aI v :: st) h = ex cal k_R_pairs 124 (x0 :: x1 :: x2 :: x3 :: x4 :: x5 :: x6 :: aI v :: ls) (st) h := e_ist (ls := x0 :: x1 :: x2 :: x3 :: x4 :: x5 :: x6 :: y :: ls) (k := 7) rfl hx (by simp only [List.length_cons]; omega)
theorem u_R_pairs_124 : ex cal k_R_pairs 124 (x0 :: x1 :: x2 :: x3 :: x4 :: aI v :: ls) (st) h = ex cal k_R_pairs 126 (x0 :: x1 :: x2 :: x3 :: x4 :: aI v :: ls) (aI v :: st) h := ex_st cal (s := s_ild 5 126) rfl rfl
theorem u_R_pairs_126 : ex cal k_R_pairs 126 (x0 :: x1 :: x2 :: aI v :: ls) (st) h = ex cal k_R_pairs 127 (x0 :: x1 :: x2 :: aI v :: ls) (aI v :: st) h := ex_st cal (s := s_ild 3 127) rfl rfl
theorem u_R_pairs_127 : ex cal k_R_pairs 127 (ls) (aI j :: aI i :: st) h = if wr i < wr j then ex cal k_R_pairs 130 (ls) (st) h else ex cal k_R_pairs 202 (ls) (st) h := e_icge cal rfl
theorem u_R_pairs_130 : ex cal k_R_pairs 130 (x0 :: x1 :: x2 :: x3 :: x4 :: x5 :: aI v :: ls) (st) h = ex cal k_R_pairs 132 (x0 :: x1 :: x2 :: x3 :: x4 :: x5 :: aI v :: ls) (aI v :: st) h := ex_st cal (s := s_ild 6 132) rfl rfl
theorem u_R_pairs_132 : ex cal k_R_pairs 132 (x0 :: x1 :: x2 :: x3 :: aI v :: ls) (st) h = ex cal k_R_pairs 134 (x0 :: x1 :: x2 :: x3 :: aI v :: ls) (aI v :: st) h := ex_st cal (s := s_ild 4 134) rfl rfl
theorem u_R_pairs_134 : ex cal k_R_pairs 134 (ls) (aI j :: aI i :: st) h = if wr i < wr j then ex cal k_R_pairs 137 (ls) (st) h else ex cal k_R_pairs 202 (ls) (st) h := e_icge cal rfl
theorem u_R_pairs_137 : ex cal k_R_pairs 137 (aQ r :: ls) (st) h = ex cal k_R_pairs 138 (aQ r :: ls) (aQ r :: st) h := ex_st cal (s := s_ald 0 138) rfl rfl
theorem u_R_pairs_138 : ex cal k_R_pairs 138 (aQ r :: ls) (st) h = ex cal k_R_pairs 139 (aQ r :: ls) (aQ r :: st) h := ex_st cal (s := s_ald 0 139) rfl rfl
theorem u_R_pairs_139 : ex cal k_R_pairs 139 (x0 :: aI v :: ls) (st) h = ex cal k_R_pairs 140 (x0 :: aI v :: ls) (aI v :: st) h := ex_st cal (s := s_ild 1 140) rfl rfl
theorem u_R_pairs_140 : ex cal k_R_pairs 140 (x0 :: x1 :: x2 :: x3 :: x4 :: aI v :: ls) (st) h = ex cal k_R_pairs 142 (x0 :: x1 :: x2 :: x3 :: x4 :: aI v :: ls) (aI v :: st) h := ex_st cal (s := s_ild 5 142) rfl rfl
theorem u_R_pairs_142 (hl : Nat.ble st.length 4 = true) : ex cal k_R_pairs 142 (ls) (aI z1 :: aI z0 :: aQ (some a) :: st) h = gO h a 10 (kk cal k_R_pairs 145 ls st (cal M_R_textAt [aQ (some a), aI z0, aI z1] h)) := e_callV cal (ci := 10) (as := [aI z1, aI z0]) rfl (by decide) rfl (Nat.le_of_ble_eq_true hl)
theorem u_R_pairs_145 : ex cal k_R_pairs 145 (aQ r :: ls) (st) h = ex cal k_R_pairs 146 (aQ r :: ls) (aQ r :: st) h := ex_st cal (s := s_ald 0 146) rfl rfl
theorem u_R_pairs_146 : ex cal k_R_pairs 146 (ls) (aQ (some a) :: st) h = gO h a 10 (ex cal k_R_pairs 149 (ls) (gf h a 13 :: st) h) := e_gf cal rfl
theorem u_R_pairs_149 : ex cal k_R_pairs 149 (x0 :: x1 :: x2 :: x3 :: x4 :: x5 :: aI v :: ls) (st) h = ex cal k_R_pairs 151 (x0 :: x1 :: x2 :: x3 :: x4 :: x5 :: aI v :: ls) (aI v :: st) h := ex_st cal (s := s_ild 6 151) rfl rfl
theorem u_R_pairs_151 : ex cal k_R_pairs 151 (ls) (aI i :: aQ (some a) :: st) h = gA h a i (ex cal k_R_pairs 152 (ls) (aI (ai h a (wr i)) :: st) h) := e_ia cal rfl
theorem u_R_pairs_152 : ex cal k_R_pairs 152 (x0 :: x1 :: aI v :: ls) (st) h = ex cal k_R_pairs 153 (x0 :: x1 :: aI v :: ls) (aI v :: st) h := ex_st cal (s := s_ild 2 153) rfl rfl
theorem u_R_pairs_153 (hl : Nat.ble st.length 4 = true) : ex cal k_R_pairs 153 (ls) (aI z2 :: aI z1 :: aI z0 :: aQ (some a) :: st) h = gO h a 10 (kk cal k_R_pairs 156 ls st (cal M_R_areAlike [aQ (some a), aI z0, aI z1, aI z2] h)) := e_callV cal (ci := 10) (as := [aI z2, aI z1, aI z0]) rfl (by decide) rfl (Nat.le_of_ble_eq_true hl)
theorem u_R_pairs_156 : ex cal k_R_pairs 156 (ls) (aI i :: st) h = if wr i = 0 then ex cal k_R_pairs 202 (ls) (st) h else ex cal k_R_pairs 159 (ls) (st) h := e_ifeq cal rfl
theorem u_R_pairs_159 : ex cal k_R_pairs 159 (aQ r :: ls) (st) h = ex cal k_R_pairs 160 (aQ r :: ls) (aQ r :: st) h := ex_st cal (s := s_ald 0 160) rfl rfl
theorem u_R_pairs_160 : ex cal k_R_pairs 160 (ls) (aQ (some a) :: st) h = gO h a 10 (ex cal k_R_pairs 163 (ls) (gf h a 19 :: st) h) := e_gf cal rfl
theorem u_R_pairs_163 : ex cal k_R_pairs 163 (ls) (st) h = ex cal k_R_pairs 165 (ls) (aI 21 :: st) h := e_push cal rfl
theorem u_R_pairs_165 : ex cal k_R_pairs 165 (x0 :: x1 :: x2 :: x3 :: x4 :: aI v :: ls) (st) h = ex cal k_R_pairs 167 (x0 :: x1 :: x2 :: x3 :: x4 :: aI v :: ls) (aI v :: st) h := ex_st cal (s := s_ild 5 167) rfl rfl
theorem u_R_pairs_167 : ex cal k_R_pairs 167 (ls) (aI j :: aI i :: st) h = ex cal k_R_pairs 168 (ls) (aI (i * j) :: st) h := e_bin cal rfl
theorem u_R_pairs_168 : ex cal k_R_pairs 168 (ls) (st) h = ex cal k_R_pairs 170 (ls) (aI 22 :: st) h := e_push cal rfl
theorem u_R_pairs_170 : ex cal k_R_pairs 170 (ls) (aI j :: aI i :: st) h = ex cal k_R_pairs 171 (ls) (aI (i + j) :: st) h := e_bin cal rfl
theorem u_R_pairs_171 : ex cal k_R_pairs 171 (x0 :: x1 :: x2 :: x3 :: x4 :: x5 :: aI v :: ls) (st) h = ex cal k_R_pairs 173 (x0 :: x1 :: x2 :: x3 :: x4 :: x5 :: aI v :: ls) (aI v :: st) h := ex_st cal (s := s_ild 6 173) rfl rfl
theorem u_R_pairs_173 : ex cal k_R_pairs 173 (ls) (aI j :: aI i :: st) h = ex cal k_R_pairs 174 (ls) (aI (i + j) :: st) h := e_bin cal rfl
theorem u_R_pairs_174 : ex cal k_R_pairs 174 (ls) (aI i :: aQ (some a) :: st) h = gA h a i (ex cal k_R_pairs 175 (ls) (aI (ai h a (wr i)) :: st) h) := e_ia cal rfl
theorem u_R_pairs_175 : ex cal k_R_pairs 175 (ls) (st) h = ex cal k_R_pairs 176 (ls) (aI 1 :: st) h := e_push cal rfl
theorem u_R_pairs_176 : ex cal k_R_pairs 176 (ls) (aI j :: aI i :: st) h = ex cal k_R_pairs 177 (ls) (aI (i + j) :: st) h := e_bin cal rfl
theorem u_R_pairs_177 : ex cal k_R_pairs 177 (x0 :: x1 :: x2 :: x3 :: x4 :: x5 :: x6 :: aI v :: ls) (st) h = ex cal k_R_pairs 179 (x0 :: x1 :: x2 :: x3 :: x4 :: x5 :: x6 :: aI v :: ls) (aI v :: st) h := ex_st cal (s := s_ild 7 179) rfl rfl
theorem u_R_pairs_179 : ex cal k_R_pairs 179 (ls) (aI j :: aI i :: st) h = if wr j < wr i then ex cal k_R_pairs 182 (ls) (st) h else ex cal k_R_pairs 202 (ls) (st) h := e_icle cal rfl
theorem u_R_pairs_182 : ex cal k_R_pairs 182 (aQ r :: ls) (st) h = ex cal k_R_pairs 183 (aQ r :: ls) (aQ r :: st) h := ex_st cal (s := s_ald 0 183) rfl rfl
theorem u_R_pairs_183 : ex cal k_R_pairs 183 (ls) (aQ (some a) :: st) h = gO h a 10 (ex cal k_R_pairs 186 (ls) (gf h a 19 :: st) h) := e_gf cal rfl
theorem u_R_pairs_186 : ex cal k_R_pairs 186 (ls) (st) h = ex cal k_R_pairs 188 (ls) (aI 21 :: st) h := e_push cal rfl
theorem u_R_pairs_188 : ex cal k_R_pairs 188 (x0 :: x1 :: x2 :: x3 :: x4 :: aI v :: ls) (st) h = ex cal k_R_pairs 190 (x0 :: x1 :: x2 :: x3 :: x4 :: aI v :: ls) (aI v :: st) h := ex_st cal (s := s_ild 5 190) rfl rfl
theorem u_R_pairs_190 : ex cal k_R_pairs 190 (ls) (aI j :: aI i :: st) h = ex cal k_R_pairs 191 (ls) (aI (i * j) :: st) h := e_bin cal rfl
theorem u_R_pairs_191 : ex cal k_R_pairs 191 (ls) (st) h = ex cal k_R_pairs 193 (ls) (aI 22 :: st) h := e_push cal rfl
theorem u_R_pairs_193 : ex cal k_R_pairs 193 (ls) (aI j :: aI i :: st) h = ex cal k_R_pairs 194 (ls) (aI (i + j) :: st) h := e_bin cal rfl
theorem u_R_pairs_194 : ex cal k_R_pairs 194 (x0 :: x1 :: x2 :: x3 :: x4 :: x5 :: aI v :: ls) (st) h = ex cal k_R_pairs 196 (x0 :: x1 :: x2 :: x3 :: x4 :: x5 :: aI v :: ls) (aI v :: st) h := ex_st cal (s := s_ild 6 196) rfl rfl
theorem u_R_pairs_196 : ex cal k_R_pairs 196 (ls) (aI j :: aI i :: st) h = ex cal k_R_pairs 197 (ls) (aI (i + j) :: st) h := e_bin cal rfl
theorem u_R_pairs_197 : ex cal k_R_pairs 197 (ls) (aI i :: aQ (some a) :: st) h = gA h a i (ex cal k_R_pairs 198 (ls) (aI (ai h a (wr i)) :: st) h) := e_ia cal rfl
theorem u_R_pairs_198 : ex cal k_R_pairs 198 (ls) (st) h = ex cal k_R_pairs 199 (ls) (aI 1 :: st) h := e_push cal rfl
theorem u_R_pairs_199 : ex cal k_R_pairs 199 (ls) (aI j :: aI i :: st) h = ex cal k_R_pairs 200 (ls) (aI (i + j) :: st) h := e_bin cal rfl
theorem u_R_pairs_200 (hx : aNl x6 = true) : ex cal k_R_pairs 200 (x0 :: x1 :: x2 :: x3 :: x4 :: x5 :: x6 :: y :: ls) (aI v :: st) h = ex cal k_R_pairs 202 (x0 :: x1 :: x2 :: x3 :: x4 :: x5 :: x6 :: aI v :: ls) (st) h := e_ist (ls := x0 :: x1 :: x2 :: x3 :: x4 :: x5 :: x6 :: y :: ls) (k := 7) rfl hx (by simp only [List.length_cons]; omega)
theorem u_R_pairs_202 : ex cal k_R_pairs 202 (aQ r :: ls) (st) h = ex cal k_R_pairs 203 (aQ r :: ls) (aQ r :: st) h := ex_st cal (s := s_ald 0 203) rfl rfl
theorem u_R_pairs_203 : ex cal k_R_pairs 203 (ls) (aQ (some a) :: st) h = gO h a 10 (ex cal k_R_pairs 206 (ls) (gf h a 19 :: st) h) := e_gf cal rfl
theorem u_R_pairs_206 : ex cal k_R_pairs 206 (ls) (st) h = ex cal k_R_pairs 208 (ls) (aI 21 :: st) h := e_push cal rfl
theorem u_R_pairs_208 : ex cal k_R_pairs 208 (x0 :: x1 :: x2 :: x3 :: x4 :: aI v :: ls) (st) h = ex cal k_R_pairs 210 (x0 :: x1 :: x2 :: x3 :: x4 :: aI v :: ls) (aI v :: st) h := ex_st cal (s := s_ild 5 210) rfl rfl
theorem u_R_pairs_210 : ex cal k_R_pairs 210 (ls) (aI j :: aI i :: st) h = ex cal k_R_pairs 211 (ls) (aI (i * j) :: st) h := e_bin cal rfl
theorem u_R_pairs_211 : ex cal k_R_pairs 211 (x0 :: x1 :: x2 :: x3 :: x4 :: x5 :: aI v :: ls) (st) h = ex cal k_R_pairs 213 (x0 :: x1 :: x2 :: x3 :: x4 :: x5 :: aI v :: ls) (aI v :: st) h := ex_st cal (s := s_ild 6 213) rfl rfl
theorem u_R_pairs_213 : ex cal k_R_pairs 213 (ls) (aI j :: aI i :: st) h = ex cal k_R_pairs 214 (ls) (aI (i + j) :: st) h := e_bin cal rfl
theorem u_R_pairs_214 : ex cal k_R_pairs 214 (x0 :: x1 :: x2 :: x3 :: x4 :: x5 :: x6 :: aI v :: ls) (st) h = ex cal k_R_pairs 216 (x0 :: x1 :: x2 :: x3 :: x4 :: x5 :: x6 :: aI v :: ls) (aI v :: st) h := ex_st cal (s := s_ild 7 216) rfl rfl
theorem u_R_pairs_216 (h3 : 3 ≤ a) : ex cal k_R_pairs 216 (ls) (aI v :: aI i :: aQ (some a) :: st) h = gA h a i (ex cal k_R_pairs 217 (ls) (st) (sa h a (upf (ai h a) (wr i) v))) := e_ias cal rfl h3
theorem u_R_pairs_217 (hx : aNl x5 = true) : ex cal k_R_pairs 217 (x0 :: x1 :: x2 :: x3 :: x4 :: x5 :: aI v :: ls) (st) h = ex cal k_R_pairs 220 (x0 :: x1 :: x2 :: x3 :: x4 :: x5 :: aI (v + (-1)) :: ls) (st) h := e_inc (ls := x0 :: x1 :: x2 :: x3 :: x4 :: x5 :: aI v :: ls) (k := 6) rfl rfl hx
theorem u_R_pairs_220 : ex cal k_R_pairs 220 (ls) (st) h = ex cal k_R_pairs 27 (ls) (st) h := ex_st cal (s := s_go 27) rfl rfl
theorem u_R_pairs_223 (hx : aNl x4 = true) : ex cal k_R_pairs 223 (x0 :: x1 :: x2 :: x3 :: x4 :: aI v :: ls) (st) h = ex cal k_R_pairs 226 (x0 :: x1 :: x2 :: x3 :: x4 :: aI (v + (-1)) :: ls) (st) h := e_inc (ls := x0 :: x1 :: x2 :: x3 :: x4 :: aI v :: ls) (k := 5) rfl rfl hx
theorem u_R_pairs_226 : ex cal k_R_pairs 226 (ls) (st) h = ex cal k_R_pairs 18 (ls) (st) h := ex_st cal (s := s_go 18) rfl rfl
theorem u_R_pairs_229 : ex cal k_R_pairs 229 (ls) (st) h = ex cal k_R_pairs 230 (ls) (aI 0 :: st) h := e_push cal rfl
theorem u_R_pairs_230 (hx : aNl x4 = true) : ex cal k_R_pairs 230 (x0 :: x1 :: x2 :: x3 :: x4 :: y :: ls) (aI v :: st) h = ex cal k_R_pairs 232 (x0 :: x1 :: x2 :: x3 :: x4 :: aI v :: ls) (st) h := e_ist (ls := x0 :: x1 :: x2 :: x3 :: x4 :: y :: ls) (k := 5) rfl hx (by simp only [List.length_cons]; omega)
theorem u_R_pairs_232 : ex cal k_R_pairs 232 (ls) (st) h = ex cal k_R_pairs 233 (ls) (aI 0 :: st) h := e_push cal rfl
theorem u_R_pairs_233 (hx : aNl x5 = true) : ex cal k_R_pairs 233 (x0 :: x1 :: x2 :: x3 :: x4 :: x5 :: y :: ls) (aI v :: st) h = ex cal k_R_pairs 235 (x0 :: x1 :: x2 :: x3 :: x4 :: x5 :: aI v :: ls) (st) h := e_ist (ls := x0 :: x1 :: x2 :: x3 :: x4 :: x5 :: y :: ls) (k := 6) rfl hx (by simp only [List.length_cons]; omega)
theorem u_R_pairs_235 : ex cal k_R_pairs 235 (x0 :: x1 :: x2 :: x3 :: x4 :: x5 :: aI v :: ls) (st) h = ex cal k_R_pairs 237 (x0 :: x1 :: x2 :: x3 :: x4 :: x5 :: aI v :: ls) (aI v :: st) h := ex_st cal (s := s_ild 6 237) rfl rfl
theorem u_R_pairs_237 : ex cal k_R_pairs 237 (x0 :: x1 :: x2 :: x3 :: aI v :: ls) (st) h = ex cal k_R_pairs 239 (x0 :: x1 :: x2 :: x3 :: aI v :: ls) (aI v :: st) h := ex_st cal (s := s_ild 4 239) rfl rfl
theorem u_R_pairs_239 : ex cal k_R_pairs 239 (ls) (aI j :: aI i :: st) h = if wr i < wr j then ex cal k_R_pairs 242 (ls) (st) h else ex cal k_R_pairs 368 (ls) (st) h := e_icge cal rfl
theorem u_R_pairs_242 : ex cal k_R_pairs 242 (aQ r :: ls) (st) h = ex cal k_R_pairs 243 (aQ r :: ls) (aQ r :: st) h := ex_st cal (s := s_ald 0 243) rfl rfl
theorem u_R_pairs_243 : ex cal k_R_pairs 243 (ls) (aQ (some a) :: st) h = gO h a 10 (ex cal k_R_pairs 246 (ls) (gf h a 20 :: st) h) := e_gf cal rfl
theorem u_R_pairs_246 : ex cal k_R_pairs 246 (x0 :: x1 :: x2 :: x3 :: x4 :: x5 :: aI v :: ls) (st) h = ex cal k_R_pairs 248 (x0 :: x1 :: x2 :: x3 :: x4 :: x5 :: aI v :: ls) (aI v :: st) h := ex_st cal (s := s_ild 6 248) rfl rfl
theorem u_R_pairs_248 : ex cal k_R_pairs 248 (ls) (st) h = ex cal k_R_pairs 249 (ls) (aI (-1) :: st) h := e_push cal rfl
theorem u_R_pairs_249 (h3 : 3 ≤ a) : ex cal k_R_pairs 249 (ls) (aI v :: aI i :: aQ (some a) :: st) h = gA h a i (ex cal k_R_pairs 250 (ls) (st) (sa h a (upf (ai h a) (wr i) v))) := e_ias cal rfl h3
theorem u_R_pairs_250 : ex cal k_R_pairs 250 (x0 :: x1 :: x2 :: x3 :: x4 :: aI v :: ls) (st) h = ex cal k_R_pairs 252 (x0 :: x1 :: x2 :: x3 :: x4 :: aI v :: ls) (aI v :: st) h := ex_st cal (s := s_ild 5 252) rfl rfl
theorem u_R_pairs_252 (hx : aNl x6 = true) : ex cal k_R_pairs 252 (x0 :: x1 :: x2 :: x3 :: x4 :: x5 :: x6 :: y :: ls) (aI v :: st) h = ex cal k_R_pairs 254 (x0 :: x1 :: x2 :: x3 :: x4 :: x5 :: x6 :: aI v :: ls) (st) h := e_ist (ls := x0 :: x1 :: x2 :: x3 :: x4 :: x5 :: x6 :: y :: ls) (k := 7) rfl hx (by simp only [List.length_cons]; omega)
theorem u_R_pairs_254 : ex cal k_R_pairs 254 (x0 :: x1 :: x2 :: x3 :: x4 :: x5 :: x6 :: aI v :: ls) (st) h = ex cal k_R_pairs 256 (x0 :: x1 :: x2 :: x3 :: x4 :: x5 :: x6 :: aI v :: ls) (aI v :: st) h := ex_st cal (s := s_ild 7 256) rfl rfl
theorem u_R_pairs_256 : ex cal k_R_pairs 256 (x0 :: x1 :: x2 :: aI v :: ls) (st) h = ex cal k_R_pairs 257 (x0 :: x1 :: x2 :: aI v :: ls) (aI v :: st) h := ex_st cal (s := s_ild 3 257) rfl rfl
theorem u_R_pairs_257 : ex cal k_R_pairs 257 (ls) (aI j :: aI i :: st) h = if wr i < wr j then ex cal k_R_pairs 260 (ls) (st) h else ex cal k_R_pairs 341 (ls) (st) h := e_icge cal rfl
theorem u_R_pairs_260 : ex cal k_R_pairs 260 (aQ r :: ls) (st) h = ex cal k_R_pairs 261 (aQ r :: ls) (aQ r :: st) h := ex_st cal (s := s_ald 0 261) rfl rfl
theorem u_R_pairs_261 : ex cal k_R_pairs 261 (ls) (aQ (some a) :: st) h = gO h a 10 (ex cal k_R_pairs 264 (ls) (gf h a 20 :: st) h) := e_gf cal rfl
theorem u_R_pairs_264 : ex cal k_R_pairs 264 (x0 :: x1 :: x2 :: x3 :: x4 :: x5 :: aI v :: ls) (st) h = ex cal k_R_pairs 266 (x0 :: x1 :: x2 :: x3 :: x4 :: x5 :: aI v :: ls) (aI v :: st) h := ex_st cal (s := s_ild 6 266) rfl rfl
theorem u_R_pairs_266 : ex cal k_R_pairs 266 (ls) (aI i :: aQ (some a) :: st) h = gA h a i (ex cal k_R_pairs 267 (ls) (aI (ai h a (wr i)) :: st) h) := e_ia cal rfl
theorem u_R_pairs_267 : ex cal k_R_pairs 267 (ls) (aI i :: st) h = if wr i < 0 then ex cal k_R_pairs 270 (ls) (st) h else ex cal k_R_pairs 341 (ls) (st) h := e_ifge cal rfl
theorem u_R_pairs_270 : ex cal k_R_pairs 270 (aQ r :: ls) (st) h = ex cal k_R_pairs 271 (aQ r :: ls) (aQ r :: st) h := ex_st cal (s := s_ald 0 271) rfl rfl
theorem u_R_pairs_271 : ex cal k_R_pairs 271 (aQ r :: ls) (st) h = ex cal k_R_pairs 272 (aQ r :: ls) (aQ r :: st) h := ex_st cal (s := s_ald 0 272) rfl rfl
theorem u_R_pairs_272 : ex cal k_R_pairs 272 (x0 :: aI v :: ls) (st) h = ex cal k_R_pairs 273 (x0 :: aI v :: ls) (aI v :: st) h := ex_st cal (s := s_ild 1 273) rfl rfl
theorem u_R_pairs_273 : ex cal k_R_pairs 273 (x0 :: x1 :: x2 :: x3 :: x4 :: x5 :: x6 :: aI v :: ls) (st) h = ex cal k_R_pairs 275 (x0 :: x1 :: x2 :: x3 :: x4 :: x5 :: x6 :: aI v :: ls) (aI v :: st) h := ex_st cal (s := s_ild 7 275) rfl rfl
theorem u_R_pairs_275 (hl : Nat.ble st.length 4 = true) : ex cal k_R_pairs 275 (ls) (aI z1 :: aI z0 :: aQ (some a) :: st) h = gO h a 10 (kk cal k_R_pairs 278 ls st (cal M_R_textAt [aQ (some a), aI z0, aI z1] h)) := e_callV cal (ci := 10) (as := [aI z1, aI z0]) rfl (by decide) rfl (Nat.le_of_ble_eq_true hl)
theorem u_R_pairs_278 : ex cal k_R_pairs 278 (aQ r :: ls) (st) h = ex cal k_R_pairs 279 (aQ r :: ls) (aQ r :: st) h := ex_st cal (s := s_ald 0 279) rfl rfl
theorem u_R_pairs_279 : ex cal k_R_pairs 279 (ls) (aQ (some a) :: st) h = gO h a 10 (ex cal k_R_pairs 282 (ls) (gf h a 13 :: st) h) := e_gf cal rfl
theorem u_R_pairs_282 : ex cal k_R_pairs 282 (x0 :: x1 :: x2 :: x3 :: x4 :: x5 :: aI v :: ls) (st) h = ex cal k_R_pairs 284 (x0 :: x1 :: x2 :: x3 :: x4 :: x5 :: aI v :: ls) (aI v :: st) h := ex_st cal (s := s_ild 6 284) rfl rfl
theorem u_R_pairs_284 : ex cal k_R_pairs 284 (ls) (aI i :: aQ (some a) :: st) h = gA h a i (ex cal k_R_pairs 285 (ls) (aI (ai h a (wr i)) :: st) h) := e_ia cal rfl
theorem u_R_pairs_285 : ex cal k_R_pairs 285 (x0 :: x1 :: aI v :: ls) (st) h = ex cal k_R_pairs 286 (x0 :: x1 :: aI v :: ls) (aI v :: st) h := ex_st cal (s := s_ild 2 286) rfl rfl
theorem u_R_pairs_286 (hl : Nat.ble st.length 4 = true) : ex cal k_R_pairs 286 (ls) (aI z2 :: aI z1 :: aI z0 :: aQ (some a) :: st) h = gO h a 10 (kk cal k_R_pairs 289 ls st (cal M_R_areAlike [aQ (some a), aI z0, aI z1, aI z2] h)) := e_callV cal (ci := 10) (as := [aI z2, aI z1, aI z0]) rfl (by decide) rfl (Nat.le_of_ble_eq_true hl)
theorem u_R_pairs_289 : ex cal k_R_pairs 289 (ls) (aI i :: st) h = if wr i = 0 then ex cal k_R_pairs 335 (ls) (st) h else ex cal k_R_pairs 292 (ls) (st) h := e_ifeq cal rfl
theorem u_R_pairs_292 : ex cal k_R_pairs 292 (aQ r :: ls) (st) h = ex cal k_R_pairs 293 (aQ r :: ls) (aQ r :: st) h := ex_st cal (s := s_ald 0 293) rfl rfl
theorem u_R_pairs_293 : ex cal k_R_pairs 293 (ls) (aQ (some a) :: st) h = gO h a 10 (ex cal k_R_pairs 296 (ls) (gf h a 19 :: st) h) := e_gf cal rfl
theorem u_R_pairs_296 : ex cal k_R_pairs 296 (ls) (st) h = ex cal k_R_pairs 298 (ls) (aI 21 :: st) h := e_push cal rfl
theorem u_R_pairs_298 : ex cal k_R_pairs 298 (x0 :: x1 :: x2 :: x3 :: x4 :: x5 :: x6 :: aI v :: ls) (st) h = ex cal k_R_pairs 300 (x0 :: x1 :: x2 :: x3 :: x4 :: x5 :: x6 :: aI v :: ls) (aI v :: st) h := ex_st cal (s := s_ild 7 300) rfl rfl
theorem u_R_pairs_300 : ex cal k_R_pairs 300 (ls) (aI j :: aI i :: st) h = ex cal k_R_pairs 301 (ls) (aI (i * j) :: st) h := e_bin cal rfl
theorem u_R_pairs_301 : ex cal k_R_pairs 301 (ls) (st) h = ex cal k_R_pairs 303 (ls) (aI 22 :: st) h := e_push cal rfl
theorem u_R_pairs_303 : ex cal k_R_pairs 303 (ls) (aI j :: aI i :: st) h = ex cal k_R_pairs 304 (ls) (aI (i + j) :: st) h := e_bin cal rfl
theorem u_R_pairs_304 : ex cal k_R_pairs 304 (x0 :: x1 :: x2 :: x3 :: x4 :: x5 :: aI v :: ls) (st) h = ex cal k_R_pairs 306 (x0 :: x1 :: x2 :: x3 :: x4 :: x5 :: aI v :: ls) (aI v :: st) h := ex_st cal (s := s_ild 6 306) rfl rfl
theorem u_R_pairs_306 : ex cal k_R_pairs 306 (ls) (aI j :: aI i :: st) h = ex cal k_R_pairs 307 (ls) (aI (i + j) :: st) h := e_bin cal rfl
theorem u_R_pairs_307 : ex cal k_R_pairs 307 (ls) (aI i :: aQ (some a) :: st) h = gA h a i (ex cal k_R_pairs 308 (ls) (aI (ai h a (wr i)) :: st) h) := e_ia cal rfl
theorem u_R_pairs_308 : ex cal k_R_pairs 308 (ls) (st) h = ex cal k_R_pairs 309 (ls) (aI 1 :: st) h := e_push cal rfl
theorem u_R_pairs_309 : ex cal k_R_pairs 309 (ls) (aI j :: aI i :: st) h = ex cal k_R_pairs 310 (ls) (aI (i + j) :: st) h := e_bin cal rfl
theorem u_R_pairs_310 : ex cal k_R_pairs 310 (aQ r :: ls) (st) h = ex cal k_R_pairs 311 (aQ r :: ls) (aQ r :: st) h := ex_st cal (s := s_ald 0 311) rfl rfl
theorem u_R_pairs_311 : ex cal k_R_pairs 311 (ls) (aQ (some a) :: st) h = gO h a 10 (ex cal k_R_pairs 314 (ls) (gf h a 19 :: st) h) := e_gf cal rfl
theorem u_R_pairs_314 : ex cal k_R_pairs 314 (ls) (st) h = ex cal k_R_pairs 316 (ls) (aI 21 :: st) h := e_push cal rfl
theorem u_R_pairs_316 : ex cal k_R_pairs 316 (x0 :: x1 :: x2 :: x3 :: x4 :: aI v :: ls) (st) h = ex cal k_R_pairs 318 (x0 :: x1 :: x2 :: x3 :: x4 :: aI v :: ls) (aI v :: st) h := ex_st cal (s := s_ild 5 318) rfl rfl
theorem u_R_pairs_318 : ex cal k_R_pairs 318 (ls) (aI j :: aI i :: st) h = ex cal k_R_pairs 319 (ls) (aI (i * j) :: st) h := e_bin cal rfl
theorem u_R_pairs_319 : ex cal k_R_pairs 319 (x0 :: x1 :: x2 :: x3 :: x4 :: x5 :: aI v :: ls) (st) h = ex cal k_R_pairs 321 (x0 :: x1 :: x2 :: x3 :: x4 :: x5 :: aI v :: ls) (aI v :: st) h := ex_st cal (s := s_ild 6 321) rfl rfl
theorem u_R_pairs_321 : ex cal k_R_pairs 321 (ls) (aI j :: aI i :: st) h = ex cal k_R_pairs 322 (ls) (aI (i + j) :: st) h := e_bin cal rfl
theorem u_R_pairs_322 : ex cal k_R_pairs 322 (ls) (aI i :: aQ (some a) :: st) h = gA h a i (ex cal k_R_pairs 323 (ls) (aI (ai h a (wr i)) :: st) h) := e_ia cal rfl
theorem u_R_pairs_323 : ex cal k_R_pairs 323 (ls) (aI j :: aI i :: st) h = if wr i = wr j then ex cal k_R_pairs 326 (ls) (st) h else ex cal k_R_pairs 335 (ls) (st) h := e_icne cal rfl
theorem u_R_pairs_326 : ex cal k_R_pairs 326 (aQ r :: ls) (st) h = ex cal k_R_pairs 327 (aQ r :: ls) (aQ r :: st) h := ex_st cal (s := s_ald 0 327) rfl rfl
theorem u_R_pairs_327 : ex cal k_R_pairs 327 (ls) (aQ (some a) :: st) h = gO h a 10 (ex cal k_R_pairs 330 (ls) (gf h a 20 :: st) h) := e_gf cal rfl
theorem u_R_pairs_330 : ex cal k_R_pairs 330 (x0 :: x1 :: x2 :: x3 :: x4 :: x5 :: aI v :: ls) (st) h = ex cal k_R_pairs 332 (x0 :: x1 :: x2 :: x3 :: x4 :: x5 :: aI v :: ls) (aI v :: st) h := ex_st cal (s := s_ild 6 332) rfl rfl
theorem u_R_pairs_332 : ex cal k_R_pairs 332 (x0 :: x1 :: x2 :: x3 :: x4 :: x5 :: x6 :: aI v :: ls) (st) h = ex cal k_R_pairs 334 (x0 :: x1 :: x2 :: x3 :: x4 :: x5 :: x6 :: aI v :: ls) (aI v :: st) h := ex_st cal (s := s_ild 7 334) rfl rfl
theorem u_R_pairs_334 (h3 : 3 ≤ a) : ex cal k_R_pairs 334 (ls) (aI v :: aI i :: aQ (some a) :: st) h = gA h a i (ex cal k_R_pairs 335 (ls) (st) (sa h a (upf (ai h a) (wr i) v))) := e_ias cal rfl h3
theorem u_R_pairs_335 (hx : aNl x6 = true) : ex cal k_R_pairs 335 (x0 :: x1 :: x2 :: x3 :: x4 :: x5 :: x6 :: aI v :: ls) (st) h = ex cal k_R_pairs 338 (x0 :: x1 :: x2 :: x3 :: x4 :: x5 :: x6 :: aI (v + 1) :: ls) (st) h := e_inc (ls := x0 :: x1 :: x2 :: x3 :: x4 :: x5 :: x6 :: aI v :: ls) (k := 7) rfl rfl hx
theorem u_R_pairs_338 : ex cal k_R_pairs 338 (ls) (st) h = ex cal k_R_pairs 254 (ls) (st) h := ex_st cal (s := s_go 254) rfl rfl
theorem u_R_pairs_341 : ex cal k_R_pairs 341 (aQ r :: ls) (st) h = ex cal k_R_pairs 342 (aQ r :: ls) (aQ r :: st) h := ex_st cal (s := s_ald 0 342) rfl rfl
theorem u_R_pairs_342 : ex cal k_R_pairs 342 (ls) (aQ (some a) :: st) h = gO h a 10 (ex cal k_R_pairs 345 (ls) (gf h a 20 :: st) h) := e_gf cal rfl
theorem u_R_pairs_345 : ex cal k_R_pairs 345 (x0 :: x1 :: x2 :: x3 :: x4 :: x5 :: aI v :: ls) (st) h = ex cal k_R_pairs 347 (x0 :: x1 :: x2 :: x3 :: x4 :: x5 :: aI v :: ls) (aI v :: st) h := ex_st cal (s := s_ild 6 347) rfl rfl
theorem u_R_pairs_347 : ex cal k_R_pairs 347 (ls) (aI i :: aQ (some a) :: st) h = gA h a i (ex cal k_R_pairs 348 (ls) (aI (ai h a (wr i)) :: st) h) := e_ia cal rfl
theorem u_R_pairs_348 : ex cal k_R_pairs 348 (ls) (aI i :: st) h = if wr i < 0 then ex cal k_R_pairs 362 (ls) (st) h else ex cal k_R_pairs 351 (ls) (st) h := e_iflt cal rfl
theorem u_R_pairs_351 : ex cal k_R_pairs 351 (aQ r :: ls) (st) h = ex cal k_R_pairs 352 (aQ r :: ls) (aQ r :: st) h := ex_st cal (s := s_ald 0 352) rfl rfl
theorem u_R_pairs_352 : ex cal k_R_pairs 352 (ls) (aQ (some a) :: st) h = gO h a 10 (ex cal k_R_pairs 355 (ls) (gf h a 20 :: st) h) := e_gf cal rfl
theorem u_R_pairs_355 : ex cal k_R_pairs 355 (x0 :: x1 :: x2 :: x3 :: x4 :: x5 :: aI v :: ls) (st) h = ex cal k_R_pairs 357 (x0 :: x1 :: x2 :: x3 :: x4 :: x5 :: aI v :: ls) (aI v :: st) h := ex_st cal (s := s_ild 6 357) rfl rfl
theorem u_R_pairs_357 : ex cal k_R_pairs 357 (ls) (aI i :: aQ (some a) :: st) h = gA h a i (ex cal k_R_pairs 358 (ls) (aI (ai h a (wr i)) :: st) h) := e_ia cal rfl
theorem u_R_pairs_358 : ex cal k_R_pairs 358 (ls) (st) h = ex cal k_R_pairs 359 (ls) (aI 1 :: st) h := e_push cal rfl
theorem u_R_pairs_359 : ex cal k_R_pairs 359 (ls) (aI j :: aI i :: st) h = ex cal k_R_pairs 360 (ls) (aI (i + j) :: st) h := e_bin cal rfl
theorem u_R_pairs_360 (hx : aNl x4 = true) : ex cal k_R_pairs 360 (x0 :: x1 :: x2 :: x3 :: x4 :: y :: ls) (aI v :: st) h = ex cal k_R_pairs 362 (x0 :: x1 :: x2 :: x3 :: x4 :: aI v :: ls) (st) h := e_ist (ls := x0 :: x1 :: x2 :: x3 :: x4 :: y :: ls) (k := 5) rfl hx (by simp only [List.length_cons]; omega)
theorem u_R_pairs_362 (hx : aNl x5 = true) : ex cal k_R_pairs 362 (x0 :: x1 :: x2 :: x3 :: x4 :: x5 :: aI v :: ls) (st) h = ex cal k_R_pairs 365 (x0 :: x1 :: x2 :: x3 :: x4 :: x5 :: aI (v + 1) :: ls) (st) h := e_inc (ls := x0 :: x1 :: x2 :: x3 :: x4 :: x5 :: aI v :: ls) (k := 6) rfl rfl hx
theorem u_R_pairs_365 : ex cal k_R_pairs 365 (ls) (st) h = ex cal k_R_pairs 235 (ls) (st) h := ex_st cal (s := s_go 235) rfl rfl
theorem u_R_pairs_368 : ex cal k_R_pairs 368 (ls) ([]) h = some (none, h) := e_ret0 cal rfl
theorem n_R_pairs (d : Nat) : ev (d + 1) M_R_pairs [aQ (some a), aI z0, aI z1] h = ex (ev d) k_R_pairs 0 [aQ (some a), aI z0, aI z1, aU, aU, aU, aU, aU] [] h := rfl
theorem u_R_isTaken_0 : ex cal k_R_isTaken 0 (ls) (st) h = ex cal k_R_isTaken 1 (ls) (aI 0 :: st) h := e_push cal rfl
theorem u_R_isTaken_1 (hx : aNl x2 = true) : ex cal k_R_isTaken 1 (x0 :: x1 :: x2 :: y :: ls) (aI v :: st) h = ex cal k_R_isTaken 2 (x0 :: x1 :: x2 :: aI v :: ls) (st) h := e_ist (ls := x0 :: x1 :: x2 :: y :: ls) (k := 3) rfl hx (by simp only [List.length_cons]; omega)
theorem u_R_isTaken_2 : ex cal k_R_isTaken 2 (ls) (st) h = ex cal k_R_isTaken 3 (ls) (aI 0 :: st) h := e_push cal rfl
theorem u_R_isTaken_3 (hx : aNl x3 = true) : ex cal k_R_isTaken 3 (x0 :: x1 :: x2 :: x3 :: y :: ls) (aI v :: st) h = ex cal k_R_isTaken 5 (x0 :: x1 :: x2 :: x3 :: aI v :: ls) (st) h := e_ist (ls := x0 :: x1 :: x2 :: x3 :: y :: ls) (k := 4) rfl hx (by simp only [List.length_cons]; omega)
theorem u_R_isTaken_5 : ex cal k_R_isTaken 5 (x0 :: x1 :: x2 :: x3 :: aI v :: ls) (st) h = ex cal k_R_isTaken 7 (x0 :: x1 :: x2 :: x3 :: aI v :: ls) (aI v :: st) h := ex_st cal (s := s_ild 4 7) rfl rfl
theorem u_R_isTaken_7 : ex cal k_R_isTaken 7 (x0 :: x1 :: aI v :: ls) (st) h = ex cal k_R_isTaken 8 (x0 :: x1 :: aI v :: ls) (aI v :: st) h := ex_st cal (s := s_ild 2 8) rfl rfl
theorem u_R_isTaken_8 : ex cal k_R_isTaken 8 (ls) (aI j :: aI i :: st) h = if wr i < wr j then ex cal k_R_isTaken 11 (ls) (st) h else ex cal k_R_isTaken 38 (ls) (st) h := e_icge cal rfl
theorem u_R_isTaken_11 : ex cal k_R_isTaken 11 (x0 :: x1 :: x2 :: aI v :: ls) (st) h = ex cal k_R_isTaken 12 (x0 :: x1 :: x2 :: aI v :: ls) (aI v :: st) h := ex_st cal (s := s_ild 3 12) rfl rfl
theorem u_R_isTaken_12 : ex cal k_R_isTaken 12 (ls) (aI i :: st) h = if wr i = 0 then ex cal k_R_isTaken 15 (ls) (st) h else ex cal k_R_isTaken 26 (ls) (st) h := e_ifne cal rfl
theorem u_R_isTaken_15 : ex cal k_R_isTaken 15 (aQ r :: ls) (st) h = ex cal k_R_isTaken 16 (aQ r :: ls) (aQ r :: st) h := ex_st cal (s := s_ald 0 16) rfl rfl
theorem u_R_isTaken_16 : ex cal k_R_isTaken 16 (ls) (aQ (some a) :: st) h = gO h a 10 (ex cal k_R_isTaken 19 (ls) (gf h a 20 :: st) h) := e_gf cal rfl
theorem u_R_isTaken_19 : ex cal k_R_isTaken 19 (x0 :: x1 :: x2 :: x3 :: aI v :: ls) (st) h = ex cal k_R_isTaken 21 (x0 :: x1 :: x2 :: x3 :: aI v :: ls) (aI v :: st) h := ex_st cal (s := s_ild 4 21) rfl rfl
theorem u_R_isTaken_21 : ex cal k_R_isTaken 21 (ls) (aI i :: aQ (some a) :: st) h = gA h a i (ex cal k_R_isTaken 22 (ls) (aI (ai h a (wr i)) :: st) h) := e_ia cal rfl
theorem u_R_isTaken_22 : ex cal k_R_isTaken 22 (x0 :: aI v :: ls) (st) h = ex cal k_R_isTaken 23 (x0 :: aI v :: ls) (aI v :: st) h := ex_st cal (s := s_ild 1 23) rfl rfl
theorem u_R_isTaken_23 : ex cal k_R_isTaken 23 (ls) (aI j :: aI i :: st) h = if wr i = wr j then ex cal k_R_isTaken 26 (ls) (st) h else ex cal k_R_isTaken 30 (ls) (st) h := e_icne cal rfl
theorem u_R_isTaken_26 : ex cal k_R_isTaken 26 (ls) (st) h = ex cal k_R_isTaken 27 (ls) (aI 1 :: st) h := e_push cal rfl
theorem u_R_isTaken_27 : ex cal k_R_isTaken 27 (ls) (st) h = ex cal k_R_isTaken 31 (ls) (st) h := ex_st cal (s := s_go 31) rfl rfl
theorem u_R_isTaken_30 : ex cal k_R_isTaken 30 (ls) (st) h = ex cal k_R_isTaken 31 (ls) (aI 0 :: st) h := e_push cal rfl
theorem u_R_isTaken_31 (hx : aNl x2 = true) : ex cal k_R_isTaken 31 (x0 :: x1 :: x2 :: y :: ls) (aI v :: st) h = ex cal k_R_isTaken 32 (x0 :: x1 :: x2 :: aI v :: ls) (st) h := e_ist (ls := x0 :: x1 :: x2 :: y :: ls) (k := 3) rfl hx (by simp only [List.length_cons]; omega)
theorem u_R_isTaken_32 (hx : aNl x3 = true) : ex cal k_R_isTaken 32 (x0 :: x1 :: x2 :: x3 :: aI v :: ls) (st) h = ex cal k_R_isTaken 35 (x0 :: x1 :: x2 :: x3 :: aI (v + 1) :: ls) (st) h := e_inc (ls := x0 :: x1 :: x2 :: x3 :: aI v :: ls) (k := 4) rfl rfl hx
theorem u_R_isTaken_35 : ex cal k_R_isTaken 35 (ls) (st) h = ex cal k_R_isTaken 5 (ls) (st) h := ex_st cal (s := s_go 5) rfl rfl
theorem u_R_isTaken_38 : ex cal k_R_isTaken 38 (x0 :: x1 :: x2 :: aI v :: ls) (st) h = ex cal k_R_isTaken 39 (x0 :: x1 :: x2 :: aI v :: ls) (aI v :: st) h := ex_st cal (s := s_ild 3 39) rfl rfl
theorem u_R_isTaken_39 (hv : v = 0 ∨ v = 1) : ex cal k_R_isTaken 39 (ls) ([aI v]) h = some (some (aI v), h) := e_ret22 rfl hv
theorem n_R_isTaken (d : Nat) : ev (d + 1) M_R_isTaken [aQ (some a), aI z0, aI z1] h = ex (ev d) k_R_isTaken 0 [aQ (some a), aI z0, aI z1, aU, aU] [] h := rfl
theorem u_R_moves_0 : ex cal k_R_moves 0 (ls) (st) h = ex cal k_R_moves 1 (ls) (aI 0 :: st) h := e_push cal rfl
theorem u_R_moves_1 (hx : aNl x1 = true) : ex cal k_R_moves 1 (x0 :: x1 :: y :: ls) (aI v :: st) h = ex cal k_R_moves 2 (x0 :: x1 :: aI v :: ls) (st) h := e_ist (ls := x0 :: x1 :: y :: ls) (k := 2) rfl hx (by simp only [List.length_cons]; omega)
theorem u_R_moves_2 : ex cal k_R_moves 2 (x0 :: x1 :: aI v :: ls) (st) h = ex cal k_R_moves 3 (x0 :: x1 :: aI v :: ls) (aI v :: st) h := ex_st cal (s := s_ild 2 3) rfl rfl
theorem u_R_moves_3 : ex cal k_R_moves 3 (aQ r :: ls) (st) h = ex cal k_R_moves 4 (aQ r :: ls) (aQ r :: st) h := ex_st cal (s := s_ald 0 4) rfl rfl
theorem u_R_moves_4 : ex cal k_R_moves 4 (ls) (aQ (some a) :: st) h = gO h a 10 (ex cal k_R_moves 7 (ls) (gf h a 14 :: st) h) := e_gf cal rfl
theorem u_R_moves_7 : ex cal k_R_moves 7 (ls) (st) h = ex cal k_R_moves 8 (ls) (aI 2 :: st) h := e_push cal rfl
theorem u_R_moves_8 : ex cal k_R_moves 8 (ls) (aI i :: aQ (some a) :: st) h = gA h a i (ex cal k_R_moves 9 (ls) (aI (ai h a (wr i)) :: st) h) := e_ia cal rfl
theorem u_R_moves_9 : ex cal k_R_moves 9 (ls) (aI j :: aI i :: st) h = if wr i < wr j then ex cal k_R_moves 12 (ls) (st) h else ex cal k_R_moves 81 (ls) (st) h := e_icge cal rfl
theorem u_R_moves_12 : ex cal k_R_moves 12 (ls) (st) h = ex cal k_R_moves 13 (ls) (aI 0 :: st) h := e_push cal rfl
theorem u_R_moves_13 (hx : aNl x2 = true) : ex cal k_R_moves 13 (x0 :: x1 :: x2 :: y :: ls) (aI v :: st) h = ex cal k_R_moves 14 (x0 :: x1 :: x2 :: aI v :: ls) (st) h := e_ist (ls := x0 :: x1 :: x2 :: y :: ls) (k := 3) rfl hx (by simp only [List.length_cons]; omega)
theorem u_R_moves_14 : ex cal k_R_moves 14 (x0 :: x1 :: x2 :: aI v :: ls) (st) h = ex cal k_R_moves 15 (x0 :: x1 :: x2 :: aI v :: ls) (aI v :: st) h := ex_st cal (s := s_ild 3 15) rfl rfl
theorem u_R_moves_15 : ex cal k_R_moves 15 (aQ r :: ls) (st) h = ex cal k_R_moves 16 (aQ r :: ls) (aQ r :: st) h := ex_st cal (s := s_ald 0 16) rfl rfl
theorem u_R_moves_16 : ex cal k_R_moves 16 (ls) (aQ (some a) :: st) h = gO h a 10 (ex cal k_R_moves 19 (ls) (gf h a 1 :: st) h) := e_gf cal rfl
theorem u_R_moves_19 : ex cal k_R_moves 19 (x0 :: aI v :: ls) (st) h = ex cal k_R_moves 20 (x0 :: aI v :: ls) (aI v :: st) h := ex_st cal (s := s_ild 1 20) rfl rfl
theorem u_R_moves_20 : ex cal k_R_moves 20 (ls) (aI i :: aQ (some a) :: st) h = gA h a i (ex cal k_R_moves 21 (ls) (aI (ai h a (wr i)) :: st) h) := e_ia cal rfl
theorem u_R_moves_21 : ex cal k_R_moves 21 (ls) (aI j :: aI i :: st) h = if wr i < wr j then ex cal k_R_moves 24 (ls) (st) h else ex cal k_R_moves 75 (ls) (st) h := e_icge cal rfl
theorem u_R_moves_24 : ex cal k_R_moves 24 (aQ r :: ls) (st) h = ex cal k_R_moves 25 (aQ r :: ls) (aQ r :: st) h := ex_st cal (s := s_ald 0 25) rfl rfl
theorem u_R_moves_25 : ex cal k_R_moves 25 (ls) (aQ (some a) :: st) h = gO h a 10 (ex cal k_R_moves 28 (ls) (gf h a 20 :: st) h) := e_gf cal rfl
theorem u_R_moves_28 : ex cal k_R_moves 28 (x0 :: x1 :: aI v :: ls) (st) h = ex cal k_R_moves 29 (x0 :: x1 :: aI v :: ls) (aI v :: st) h := ex_st cal (s := s_ild 2 29) rfl rfl
theorem u_R_moves_29 : ex cal k_R_moves 29 (ls) (aI i :: aQ (some a) :: st) h = gA h a i (ex cal k_R_moves 30 (ls) (aI (ai h a (wr i)) :: st) h) := e_ia cal rfl
theorem u_R_moves_30 : ex cal k_R_moves 30 (ls) (aI i :: st) h = if wr i < 0 then ex cal k_R_moves 33 (ls) (st) h else ex cal k_R_moves 75 (ls) (st) h := e_ifge cal rfl
theorem u_R_moves_33 : ex cal k_R_moves 33 (aQ r :: ls) (st) h = ex cal k_R_moves 34 (aQ r :: ls) (aQ r :: st) h := ex_st cal (s := s_ald 0 34) rfl rfl
theorem u_R_moves_34 : ex cal k_R_moves 34 (x0 :: aI v :: ls) (st) h = ex cal k_R_moves 35 (x0 :: aI v :: ls) (aI v :: st) h := ex_st cal (s := s_ild 1 35) rfl rfl
theorem u_R_moves_35 : ex cal k_R_moves 35 (x0 :: x1 :: x2 :: aI v :: ls) (st) h = ex cal k_R_moves 36 (x0 :: x1 :: x2 :: aI v :: ls) (aI v :: st) h := ex_st cal (s := s_ild 3 36) rfl rfl
theorem u_R_moves_36 (hl : Nat.ble st.length 4 = true) : ex cal k_R_moves 36 (ls) (aI z1 :: aI z0 :: aQ (some a) :: st) h = gO h a 10 (kk cal k_R_moves 39 ls st (cal M_R_textAt [aQ (some a), aI z0, aI z1] h)) := e_callV cal (ci := 10) (as := [aI z1, aI z0]) rfl (by decide) rfl (Nat.le_of_ble_eq_true hl)
theorem u_R_moves_39 : ex cal k_R_moves 39 (aQ r :: ls) (st) h = ex cal k_R_moves 40 (aQ r :: ls) (aQ r :: st) h := ex_st cal (s := s_ald 0 40) rfl rfl
theorem u_R_moves_40 : ex cal k_R_moves 40 (ls) (aQ (some a) :: st) h = gO h a 10 (ex cal k_R_moves 43 (ls) (gf h a 13 :: st) h) := e_gf cal rfl
theorem u_R_moves_43 : ex cal k_R_moves 43 (x0 :: x1 :: aI v :: ls) (st) h = ex cal k_R_moves 44 (x0 :: x1 :: aI v :: ls) (aI v :: st) h := ex_st cal (s := s_ild 2 44) rfl rfl
theorem u_R_moves_44 : ex cal k_R_moves 44 (ls) (aI i :: aQ (some a) :: st) h = gA h a i (ex cal k_R_moves 45 (ls) (aI (ai h a (wr i)) :: st) h) := e_ia cal rfl
theorem u_R_moves_45 : ex cal k_R_moves 45 (ls) (aI j :: aI i :: st) h = if wr i = wr j then ex cal k_R_moves 48 (ls) (st) h else ex cal k_R_moves 69 (ls) (st) h := e_icne cal rfl
theorem u_R_moves_48 : ex cal k_R_moves 48 (aQ r :: ls) (st) h = ex cal k_R_moves 49 (aQ r :: ls) (aQ r :: st) h := ex_st cal (s := s_ald 0 49) rfl rfl
theorem u_R_moves_49 : ex cal k_R_moves 49 (x0 :: x1 :: x2 :: aI v :: ls) (st) h = ex cal k_R_moves 50 (x0 :: x1 :: x2 :: aI v :: ls) (aI v :: st) h := ex_st cal (s := s_ild 3 50) rfl rfl
theorem u_R_moves_50 : ex cal k_R_moves 50 (aQ r :: ls) (st) h = ex cal k_R_moves 51 (aQ r :: ls) (aQ r :: st) h := ex_st cal (s := s_ald 0 51) rfl rfl
theorem u_R_moves_51 : ex cal k_R_moves 51 (ls) (aQ (some a) :: st) h = gO h a 10 (ex cal k_R_moves 54 (ls) (gf h a 14 :: st) h) := e_gf cal rfl
theorem u_R_moves_54 : ex cal k_R_moves 54 (ls) (st) h = ex cal k_R_moves 55 (ls) (aI 2 :: st) h := e_push cal rfl
theorem u_R_moves_55 : ex cal k_R_moves 55 (ls) (aI i :: aQ (some a) :: st) h = gA h a i (ex cal k_R_moves 56 (ls) (aI (ai h a (wr i)) :: st) h) := e_ia cal rfl
theorem u_R_moves_56 (hl : Nat.ble st.length 4 = true) : ex cal k_R_moves 56 (ls) (aI z1 :: aI z0 :: aQ (some a) :: st) h = gO h a 10 (kk cal k_R_moves 59 ls st (cal M_R_isTaken [aQ (some a), aI z0, aI z1] h)) := e_callV cal (ci := 10) (as := [aI z1, aI z0]) rfl (by decide) rfl (Nat.le_of_ble_eq_true hl)
theorem u_R_moves_59 : ex cal k_R_moves 59 (ls) (aI i :: st) h = if wr i = 0 then ex cal k_R_moves 62 (ls) (st) h else ex cal k_R_moves 69 (ls) (st) h := e_ifne cal rfl
theorem u_R_moves_62 : ex cal k_R_moves 62 (aQ r :: ls) (st) h = ex cal k_R_moves 63 (aQ r :: ls) (aQ r :: st) h := ex_st cal (s := s_ald 0 63) rfl rfl
theorem u_R_moves_63 : ex cal k_R_moves 63 (ls) (aQ (some a) :: st) h = gO h a 10 (ex cal k_R_moves 66 (ls) (gf h a 20 :: st) h) := e_gf cal rfl
theorem u_R_moves_66 : ex cal k_R_moves 66 (x0 :: x1 :: aI v :: ls) (st) h = ex cal k_R_moves 67 (x0 :: x1 :: aI v :: ls) (aI v :: st) h := ex_st cal (s := s_ild 2 67) rfl rfl
theorem u_R_moves_67 : ex cal k_R_moves 67 (x0 :: x1 :: x2 :: aI v :: ls) (st) h = ex cal k_R_moves 68 (x0 :: x1 :: x2 :: aI v :: ls) (aI v :: st) h := ex_st cal (s := s_ild 3 68) rfl rfl
theorem u_R_moves_68 (h3 : 3 ≤ a) : ex cal k_R_moves 68 (ls) (aI v :: aI i :: aQ (some a) :: st) h = gA h a i (ex cal k_R_moves 69 (ls) (st) (sa h a (upf (ai h a) (wr i) v))) := e_ias cal rfl h3
theorem u_R_moves_69 (hx : aNl x2 = true) : ex cal k_R_moves 69 (x0 :: x1 :: x2 :: aI v :: ls) (st) h = ex cal k_R_moves 72 (x0 :: x1 :: x2 :: aI (v + 1) :: ls) (st) h := e_inc (ls := x0 :: x1 :: x2 :: aI v :: ls) (k := 3) rfl rfl hx
theorem u_R_moves_72 : ex cal k_R_moves 72 (ls) (st) h = ex cal k_R_moves 14 (ls) (st) h := ex_st cal (s := s_go 14) rfl rfl
theorem u_R_moves_75 (hx : aNl x1 = true) : ex cal k_R_moves 75 (x0 :: x1 :: aI v :: ls) (st) h = ex cal k_R_moves 78 (x0 :: x1 :: aI (v + 1) :: ls) (st) h := e_inc (ls := x0 :: x1 :: aI v :: ls) (k := 2) rfl rfl hx
theorem u_R_moves_78 : ex cal k_R_moves 78 (ls) (st) h = ex cal k_R_moves 2 (ls) (st) h := ex_st cal (s := s_go 2) rfl rfl
theorem u_R_moves_81 : ex cal k_R_moves 81 (ls) ([]) h = some (none, h) := e_ret0 cal rfl
theorem n_R_moves (d : Nat) : ev (d + 1) M_R_moves [aQ (some a), aI z0] h = ex (ev d) k_R_moves 0 [aQ (some a), aI z0, aU, aU] [] h := rfl
theorem u_R_comes_0 : ex cal k_R_comes 0 (aQ r :: ls) (st) h = ex cal k_R_comes 1 (aQ r :: ls) (aQ r :: st) h := ex_st cal (s := s_ald 0 1) rfl rfl
theorem u_R_comes_1 : ex cal k_R_comes 1 (ls) (aQ (some a) :: st) h = gO h a 10 (ex cal k_R_comes 4 (ls) (gf h a 14 :: st) h) := e_gf cal rfl
theorem u_R_comes_4 : ex cal k_R_comes 4 (ls) (st) h = ex cal k_R_comes 5 (ls) (aI 1 :: st) h := e_push cal rfl
theorem u_R_comes_5 : ex cal k_R_comes 5 (ls) (aI i :: aQ (some a) :: st) h = gA h a i (ex cal k_R_comes 6 (ls) (aI (ai h a (wr i)) :: st) h) := e_ia cal rfl
theorem u_R_comes_6 (hx : aNl x4 = true) : ex cal k_R_comes 6 (x0 :: x1 :: x2 :: x3 :: x4 :: y :: ls) (aI v :: st) h = ex cal k_R_comes 8 (x0 :: x1 :: x2 :: x3 :: x4 :: aI v :: ls) (st) h := e_ist (ls := x0 :: x1 :: x2 :: x3 :: x4 :: y :: ls) (k := 5) rfl hx (by simp only [List.length_cons]; omega)
theorem u_R_comes_8 : ex cal k_R_comes 8 (aQ r :: ls) (st) h = ex cal k_R_comes 9 (aQ r :: ls) (aQ r :: st) h := ex_st cal (s := s_ald 0 9) rfl rfl
theorem u_R_comes_9 : ex cal k_R_comes 9 (ls) (aQ (some a) :: st) h = gO h a 10 (ex cal k_R_comes 12 (ls) (gf h a 14 :: st) h) := e_gf cal rfl
theorem u_R_comes_12 : ex cal k_R_comes 12 (ls) (st) h = ex cal k_R_comes 13 (ls) (aI 1 :: st) h := e_push cal rfl
theorem u_R_comes_13 (hx : aNl y = true) (hy : aNl y2 = true) : ex cal k_R_comes 13 (ls) (y :: y2 :: st) h = ex cal k_R_comes 14 (ls) (y :: y2 :: y :: y2 :: st) h := e_dup2 rfl hx hy
theorem u_R_comes_14 : ex cal k_R_comes 14 (ls) (aI i :: aQ (some a) :: st) h = gA h a i (ex cal k_R_comes 15 (ls) (aI (ai h a (wr i)) :: st) h) := e_ia cal rfl
theorem u_R_comes_15 : ex cal k_R_comes 15 (ls) (st) h = ex cal k_R_comes 16 (ls) (aI 1 :: st) h := e_push cal rfl
theorem u_R_comes_16 : ex cal k_R_comes 16 (ls) (aI j :: aI i :: st) h = ex cal k_R_comes 17 (ls) (aI (i + j) :: st) h := e_bin cal rfl
theorem u_R_comes_17 (h3 : 3 ≤ a) : ex cal k_R_comes 17 (ls) (aI v :: aI i :: aQ (some a) :: st) h = gA h a i (ex cal k_R_comes 18 (ls) (st) (sa h a (upf (ai h a) (wr i) v))) := e_ias cal rfl h3
theorem u_R_comes_18 : ex cal k_R_comes 18 (aQ r :: ls) (st) h = ex cal k_R_comes 19 (aQ r :: ls) (aQ r :: st) h := ex_st cal (s := s_ald 0 19) rfl rfl
theorem u_R_comes_19 : ex cal k_R_comes 19 (ls) (aQ (some a) :: st) h = gO h a 10 (ex cal k_R_comes 22 (ls) (gf h a 5 :: st) h) := e_gf cal rfl
theorem u_R_comes_22 : ex cal k_R_comes 22 (x0 :: x1 :: x2 :: x3 :: x4 :: aI v :: ls) (st) h = ex cal k_R_comes 24 (x0 :: x1 :: x2 :: x3 :: x4 :: aI v :: ls) (aI v :: st) h := ex_st cal (s := s_ild 5 24) rfl rfl
theorem u_R_comes_24 : ex cal k_R_comes 24 (x0 :: aI v :: ls) (st) h = ex cal k_R_comes 25 (x0 :: aI v :: ls) (aI v :: st) h := ex_st cal (s := s_ild 1 25) rfl rfl
theorem u_R_comes_25 (h3 : 3 ≤ a) : ex cal k_R_comes 25 (ls) (aI v :: aI i :: aQ (some a) :: st) h = gA h a i (ex cal k_R_comes 26 (ls) (st) (sa h a (upf (ai h a) (wr i) v))) := e_ias cal rfl h3
theorem u_R_comes_26 : ex cal k_R_comes 26 (aQ r :: ls) (st) h = ex cal k_R_comes 27 (aQ r :: ls) (aQ r :: st) h := ex_st cal (s := s_ald 0 27) rfl rfl
theorem u_R_comes_27 : ex cal k_R_comes 27 (ls) (aQ (some a) :: st) h = gO h a 10 (ex cal k_R_comes 30 (ls) (gf h a 6 :: st) h) := e_gf cal rfl
theorem u_R_comes_30 : ex cal k_R_comes 30 (x0 :: x1 :: x2 :: x3 :: x4 :: aI v :: ls) (st) h = ex cal k_R_comes 32 (x0 :: x1 :: x2 :: x3 :: x4 :: aI v :: ls) (aI v :: st) h := ex_st cal (s := s_ild 5 32) rfl rfl
theorem u_R_comes_32 : ex cal k_R_comes 32 (x0 :: x1 :: aI v :: ls) (st) h = ex cal k_R_comes 33 (x0 :: x1 :: aI v :: ls) (aI v :: st) h := ex_st cal (s := s_ild 2 33) rfl rfl
theorem u_R_comes_33 (h3 : 3 ≤ a) : ex cal k_R_comes 33 (ls) (aI v :: aI i :: aQ (some a) :: st) h = gA h a i (ex cal k_R_comes 34 (ls) (st) (sa h a (upf (ai h a) (wr i) v))) := e_ias cal rfl h3
theorem u_R_comes_34 : ex cal k_R_comes 34 (aQ r :: ls) (st) h = ex cal k_R_comes 35 (aQ r :: ls) (aQ r :: st) h := ex_st cal (s := s_ald 0 35) rfl rfl
theorem u_R_comes_35 : ex cal k_R_comes 35 (ls) (aQ (some a) :: st) h = gO h a 10 (ex cal k_R_comes 38 (ls) (gf h a 7 :: st) h) := e_gf cal rfl
theorem u_R_comes_38 : ex cal k_R_comes 38 (x0 :: x1 :: x2 :: x3 :: x4 :: aI v :: ls) (st) h = ex cal k_R_comes 40 (x0 :: x1 :: x2 :: x3 :: x4 :: aI v :: ls) (aI v :: st) h := ex_st cal (s := s_ild 5 40) rfl rfl
theorem u_R_comes_40 : ex cal k_R_comes 40 (x0 :: x1 :: x2 :: aI v :: ls) (st) h = ex cal k_R_comes 41 (x0 :: x1 :: x2 :: aI v :: ls) (aI v :: st) h := ex_st cal (s := s_ild 3 41) rfl rfl
theorem u_R_comes_41 (h3 : 3 ≤ a) : ex cal k_R_comes 41 (ls) (aI v :: aI i :: aQ (some a) :: st) h = gA h a i (ex cal k_R_comes 42 (ls) (st) (sa h a (upf (ai h a) (wr i) v))) := e_ias cal rfl h3
theorem u_R_comes_42 : ex cal k_R_comes 42 (aQ r :: ls) (st) h = ex cal k_R_comes 43 (aQ r :: ls) (aQ r :: st) h := ex_st cal (s := s_ald 0 43) rfl rfl
theorem u_R_comes_43 : ex cal k_R_comes 43 (ls) (aQ (some a) :: st) h = gO h a 10 (ex cal k_R_comes 46 (ls) (gf h a 8 :: st) h) := e_gf cal rfl
theorem u_R_comes_46 : ex cal k_R_comes 46 (x0 :: x1 :: x2 :: x3 :: x4 :: aI v :: ls) (st) h = ex cal k_R_comes 48 (x0 :: x1 :: x2 :: x3 :: x4 :: aI v :: ls) (aI v :: st) h := ex_st cal (s := s_ild 5 48) rfl rfl
theorem u_R_comes_48 : ex cal k_R_comes 48 (x0 :: x1 :: x2 :: x3 :: aI v :: ls) (st) h = ex cal k_R_comes 50 (x0 :: x1 :: x2 :: x3 :: aI v :: ls) (aI v :: st) h := ex_st cal (s := s_ild 4 50) rfl rfl
theorem u_R_comes_50 (h3 : 3 ≤ a) : ex cal k_R_comes 50 (ls) (aI v :: aI i :: aQ (some a) :: st) h = gA h a i (ex cal k_R_comes 51 (ls) (st) (sa h a (upf (ai h a) (wr i) v))) := e_ias cal rfl h3
theorem u_R_comes_51 : ex cal k_R_comes 51 (aQ r :: ls) (st) h = ex cal k_R_comes 52 (aQ r :: ls) (aQ r :: st) h := ex_st cal (s := s_ald 0 52) rfl rfl
theorem u_R_comes_52 : ex cal k_R_comes 52 (ls) (aQ (some a) :: st) h = gO h a 10 (ex cal k_R_comes 55 (ls) (gf h a 9 :: st) h) := e_gf cal rfl
theorem u_R_comes_55 : ex cal k_R_comes 55 (x0 :: x1 :: x2 :: x3 :: x4 :: aI v :: ls) (st) h = ex cal k_R_comes 57 (x0 :: x1 :: x2 :: x3 :: x4 :: aI v :: ls) (aI v :: st) h := ex_st cal (s := s_ild 5 57) rfl rfl
theorem u_R_comes_57 : ex cal k_R_comes 57 (aQ r :: ls) (st) h = ex cal k_R_comes 58 (aQ r :: ls) (aQ r :: st) h := ex_st cal (s := s_ald 0 58) rfl rfl
theorem u_R_comes_58 : ex cal k_R_comes 58 (ls) (aQ (some a) :: st) h = gO h a 10 (ex cal k_R_comes 61 (ls) (gf h a 14 :: st) h) := e_gf cal rfl
theorem u_R_comes_61 : ex cal k_R_comes 61 (ls) (st) h = ex cal k_R_comes 62 (ls) (aI 4 :: st) h := e_push cal rfl
theorem u_R_comes_62 : ex cal k_R_comes 62 (ls) (aI i :: aQ (some a) :: st) h = gA h a i (ex cal k_R_comes 63 (ls) (aI (ai h a (wr i)) :: st) h) := e_ia cal rfl
theorem u_R_comes_63 (h3 : 3 ≤ a) : ex cal k_R_comes 63 (ls) (aI v :: aI i :: aQ (some a) :: st) h = gA h a i (ex cal k_R_comes 64 (ls) (st) (sa h a (upf (ai h a) (wr i) v))) := e_ias cal rfl h3
theorem u_R_comes_64 : ex cal k_R_comes 64 (aQ r :: ls) (st) h = ex cal k_R_comes 65 (aQ r :: ls) (aQ r :: st) h := ex_st cal (s := s_ald 0 65) rfl rfl
theorem u_R_comes_65 : ex cal k_R_comes 65 (ls) (aQ (some a) :: st) h = gO h a 10 (ex cal k_R_comes 68 (ls) (gf h a 11 :: st) h) := e_gf cal rfl
theorem u_R_comes_68 : ex cal k_R_comes 68 (x0 :: x1 :: x2 :: x3 :: x4 :: aI v :: ls) (st) h = ex cal k_R_comes 70 (x0 :: x1 :: x2 :: x3 :: x4 :: aI v :: ls) (aI v :: st) h := ex_st cal (s := s_ild 5 70) rfl rfl
theorem u_R_comes_70 : ex cal k_R_comes 70 (aQ r :: ls) (st) h = ex cal k_R_comes 71 (aQ r :: ls) (aQ r :: st) h := ex_st cal (s := s_ald 0 71) rfl rfl
theorem u_R_comes_71 : ex cal k_R_comes 71 (ls) (aQ (some a) :: st) h = gO h a 10 (ex cal k_R_comes 74 (ls) (gf h a 1 :: st) h) := e_gf cal rfl
theorem u_R_comes_74 : ex cal k_R_comes 74 (x0 :: x1 :: aI v :: ls) (st) h = ex cal k_R_comes 75 (x0 :: x1 :: aI v :: ls) (aI v :: st) h := ex_st cal (s := s_ild 2 75) rfl rfl
theorem u_R_comes_75 : ex cal k_R_comes 75 (ls) (aI i :: aQ (some a) :: st) h = gA h a i (ex cal k_R_comes 76 (ls) (aI (ai h a (wr i)) :: st) h) := e_ia cal rfl
theorem u_R_comes_76 (h3 : 3 ≤ a) : ex cal k_R_comes 76 (ls) (aI v :: aI i :: aQ (some a) :: st) h = gA h a i (ex cal k_R_comes 77 (ls) (st) (sa h a (upf (ai h a) (wr i) v))) := e_ias cal rfl h3
theorem u_R_comes_77 : ex cal k_R_comes 77 (aQ r :: ls) (st) h = ex cal k_R_comes 78 (aQ r :: ls) (aQ r :: st) h := ex_st cal (s := s_ald 0 78) rfl rfl
theorem u_R_comes_78 : ex cal k_R_comes 78 (ls) (aQ (some a) :: st) h = gO h a 10 (ex cal k_R_comes 81 (ls) (gf h a 3 :: st) h) := e_gf cal rfl
theorem u_R_comes_81 : ex cal k_R_comes 81 (x0 :: x1 :: x2 :: x3 :: x4 :: aI v :: ls) (st) h = ex cal k_R_comes 83 (x0 :: x1 :: x2 :: x3 :: x4 :: aI v :: ls) (aI v :: st) h := ex_st cal (s := s_ild 5 83) rfl rfl
theorem u_R_comes_83 : ex cal k_R_comes 83 (aQ r :: ls) (st) h = ex cal k_R_comes 84 (aQ r :: ls) (aQ r :: st) h := ex_st cal (s := s_ald 0 84) rfl rfl
theorem u_R_comes_84 : ex cal k_R_comes 84 (ls) (aQ (some a) :: st) h = gO h a 10 (ex cal k_R_comes 87 (ls) (gf h a 1 :: st) h) := e_gf cal rfl
theorem u_R_comes_87 : ex cal k_R_comes 87 (x0 :: x1 :: aI v :: ls) (st) h = ex cal k_R_comes 88 (x0 :: x1 :: aI v :: ls) (aI v :: st) h := ex_st cal (s := s_ild 2 88) rfl rfl
theorem u_R_comes_88 : ex cal k_R_comes 88 (ls) (aI i :: aQ (some a) :: st) h = gA h a i (ex cal k_R_comes 89 (ls) (aI (ai h a (wr i)) :: st) h) := e_ia cal rfl
theorem u_R_comes_89 (h3 : 3 ≤ a) : ex cal k_R_comes 89 (ls) (aI v :: aI i :: aQ (some a) :: st) h = gA h a i (ex cal k_R_comes 90 (ls) (st) (sa h a (upf (ai h a) (wr i) v))) := e_ias cal rfl h3
theorem u_R_comes_90 : ex cal k_R_comes 90 (ls) (st) h = ex cal k_R_comes 91 (ls) (aI 0 :: st) h := e_push cal rfl
theorem u_R_comes_91 (hx : aNl x5 = true) : ex cal k_R_comes 91 (x0 :: x1 :: x2 :: x3 :: x4 :: x5 :: y :: ls) (aI v :: st) h = ex cal k_R_comes 93 (x0 :: x1 :: x2 :: x3 :: x4 :: x5 :: aI v :: ls) (st) h := e_ist (ls := x0 :: x1 :: x2 :: x3 :: x4 :: x5 :: y :: ls) (k := 6) rfl hx (by simp only [List.length_cons]; omega)
theorem u_R_comes_93 : ex cal k_R_comes 93 (x0 :: x1 :: x2 :: x3 :: x4 :: x5 :: aI v :: ls) (st) h = ex cal k_R_comes 95 (x0 :: x1 :: x2 :: x3 :: x4 :: x5 :: aI v :: ls) (aI v :: st) h := ex_st cal (s := s_ild 6 95) rfl rfl
theorem u_R_comes_95 : ex cal k_R_comes 95 (ls) (st) h = ex cal k_R_comes 98 (ls) (aI 540 :: st) h := e_push cal rfl
theorem u_R_comes_98 : ex cal k_R_comes 98 (ls) (aI j :: aI i :: st) h = if wr i < wr j then ex cal k_R_comes 101 (ls) (st) h else ex cal k_R_comes 134 (ls) (st) h := e_icge cal rfl
theorem u_R_comes_101 : ex cal k_R_comes 101 (aQ r :: ls) (st) h = ex cal k_R_comes 102 (aQ r :: ls) (aQ r :: st) h := ex_st cal (s := s_ald 0 102) rfl rfl
theorem u_R_comes_102 : ex cal k_R_comes 102 (ls) (aQ (some a) :: st) h = gO h a 10 (ex cal k_R_comes 105 (ls) (gf h a 2 :: st) h) := e_gf cal rfl
theorem u_R_comes_105 : ex cal k_R_comes 105 (ls) (st) h = ex cal k_R_comes 108 (ls) (aI 540 :: st) h := e_push cal rfl
theorem u_R_comes_108 : ex cal k_R_comes 108 (x0 :: x1 :: x2 :: x3 :: x4 :: aI v :: ls) (st) h = ex cal k_R_comes 110 (x0 :: x1 :: x2 :: x3 :: x4 :: aI v :: ls) (aI v :: st) h := ex_st cal (s := s_ild 5 110) rfl rfl
theorem u_R_comes_110 : ex cal k_R_comes 110 (ls) (aI j :: aI i :: st) h = ex cal k_R_comes 111 (ls) (aI (i * j) :: st) h := e_bin cal rfl
theorem u_R_comes_111 : ex cal k_R_comes 111 (x0 :: x1 :: x2 :: x3 :: x4 :: x5 :: aI v :: ls) (st) h = ex cal k_R_comes 113 (x0 :: x1 :: x2 :: x3 :: x4 :: x5 :: aI v :: ls) (aI v :: st) h := ex_st cal (s := s_ild 6 113) rfl rfl
theorem u_R_comes_113 : ex cal k_R_comes 113 (ls) (aI j :: aI i :: st) h = ex cal k_R_comes 114 (ls) (aI (i + j) :: st) h := e_bin cal rfl
theorem u_R_comes_114 : ex cal k_R_comes 114 (aQ r :: ls) (st) h = ex cal k_R_comes 115 (aQ r :: ls) (aQ r :: st) h := ex_st cal (s := s_ald 0 115) rfl rfl
theorem u_R_comes_115 : ex cal k_R_comes 115 (ls) (aQ (some a) :: st) h = gO h a 10 (ex cal k_R_comes 118 (ls) (gf h a 0 :: st) h) := e_gf cal rfl
theorem u_R_comes_118 : ex cal k_R_comes 118 (ls) (st) h = ex cal k_R_comes 121 (ls) (aI 540 :: st) h := e_push cal rfl
theorem u_R_comes_121 : ex cal k_R_comes 121 (x0 :: x1 :: aI v :: ls) (st) h = ex cal k_R_comes 122 (x0 :: x1 :: aI v :: ls) (aI v :: st) h := ex_st cal (s := s_ild 2 122) rfl rfl
theorem u_R_comes_122 : ex cal k_R_comes 122 (ls) (aI j :: aI i :: st) h = ex cal k_R_comes 123 (ls) (aI (i * j) :: st) h := e_bin cal rfl
theorem u_R_comes_123 : ex cal k_R_comes 123 (x0 :: x1 :: x2 :: x3 :: x4 :: x5 :: aI v :: ls) (st) h = ex cal k_R_comes 125 (x0 :: x1 :: x2 :: x3 :: x4 :: x5 :: aI v :: ls) (aI v :: st) h := ex_st cal (s := s_ild 6 125) rfl rfl
theorem u_R_comes_125 : ex cal k_R_comes 125 (ls) (aI j :: aI i :: st) h = ex cal k_R_comes 126 (ls) (aI (i + j) :: st) h := e_bin cal rfl
theorem u_R_comes_126 : ex cal k_R_comes 126 (ls) (aI i :: aQ (some a) :: st) h = gA h a i (ex cal k_R_comes 127 (ls) (aI (ai h a (wr i)) :: st) h) := e_ia cal rfl
theorem u_R_comes_127 (h3 : 3 ≤ a) : ex cal k_R_comes 127 (ls) (aI v :: aI i :: aQ (some a) :: st) h = gA h a i (ex cal k_R_comes 128 (ls) (st) (sa h a (upf (ai h a) (wr i) v))) := e_ias cal rfl h3
theorem u_R_comes_128 (hx : aNl x5 = true) : ex cal k_R_comes 128 (x0 :: x1 :: x2 :: x3 :: x4 :: x5 :: aI v :: ls) (st) h = ex cal k_R_comes 131 (x0 :: x1 :: x2 :: x3 :: x4 :: x5 :: aI (v + 1) :: ls) (st) h := e_inc (ls := x0 :: x1 :: x2 :: x3 :: x4 :: x5 :: aI v :: ls) (k := 6) rfl rfl hx
theorem u_R_comes_131 : ex cal k_R_comes 131 (ls) (st) h = ex cal k_R_comes 93 (ls) (st) h := ex_st cal (s := s_go 93) rfl rfl
theorem u_R_comes_134 : ex cal k_R_comes 134 (x0 :: x1 :: x2 :: x3 :: x4 :: aI v :: ls) (st) h = ex cal k_R_comes 136 (x0 :: x1 :: x2 :: x3 :: x4 :: aI v :: ls) (aI v :: st) h := ex_st cal (s := s_ild 5 136) rfl rfl
theorem u_R_comes_136 : ex cal k_R_comes 136 (ls) ([aI v]) h = some (some (aI v), h) := e_ret1 cal rfl
theorem n_R_comes (d : Nat) : ev (d + 1) M_R_comes [aQ (some a), aI z0, aI z1, aI z2, aI z3] h = ex (ev d) k_R_comes 0 [aQ (some a), aI z0, aI z1, aI z2, aI z3, aU, aU] [] h := rfl
theorem u_R_marks_0 : ex cal k_R_marks 0 (x0 :: aQ r :: ls) (st) h = ex cal k_R_marks 1 (x0 :: aQ r :: ls) (aQ r :: st) h := ex_st cal (s := s_ald 1 1) rfl rfl
theorem u_R_marks_1 : ex cal k_R_marks 1 (x0 :: x1 :: aI v :: ls) (st) h = ex cal k_R_marks 2 (x0 :: x1 :: aI v :: ls) (aI v :: st) h := ex_st cal (s := s_ild 2 2) rfl rfl
theorem u_R_marks_2 : ex cal k_R_marks 2 (ls) (st) h = ex cal k_R_marks 3 (ls) (aI 2 :: st) h := e_push cal rfl
theorem u_R_marks_3 : ex cal k_R_marks 3 (ls) (aI j :: aI i :: st) h = ex cal k_R_marks 4 (ls) (aI (i + j) :: st) h := e_bin cal rfl
theorem u_R_marks_4 : ex cal k_R_marks 4 (ls) (aI i :: aQ (some a) :: st) h = gA h a i (ex cal k_R_marks 5 (ls) (aI (ai h a (wr i)) :: st) h) := e_ia cal rfl
theorem u_R_marks_5 : ex cal k_R_marks 5 (ls) (st) h = ex cal k_R_marks 7 (ls) (aI 8 :: st) h := e_push cal rfl
theorem u_R_marks_7 : ex cal k_R_marks 7 (ls) (aI j :: aI i :: st) h = if wr i = wr j then ex cal k_R_marks 10 (ls) (st) h else ex cal k_R_marks 49 (ls) (st) h := e_icne cal rfl
theorem u_R_marks_10 : ex cal k_R_marks 10 (x0 :: x1 :: aI v :: ls) (st) h = ex cal k_R_marks 11 (x0 :: x1 :: aI v :: ls) (aI v :: st) h := ex_st cal (s := s_ild 2 11) rfl rfl
theorem u_R_marks_11 : ex cal k_R_marks 11 (ls) (st) h = ex cal k_R_marks 12 (ls) (aI 3 :: st) h := e_push cal rfl
theorem u_R_marks_12 : ex cal k_R_marks 12 (ls) (aI j :: aI i :: st) h = ex cal k_R_marks 13 (ls) (aI (i + j) :: st) h := e_bin cal rfl
theorem u_R_marks_13 (hx : aNl x5 = true) : ex cal k_R_marks 13 (x0 :: x1 :: x2 :: x3 :: x4 :: x5 :: y :: ls) (aI v :: st) h = ex cal k_R_marks 15 (x0 :: x1 :: x2 :: x3 :: x4 :: x5 :: aI v :: ls) (st) h := e_ist (ls := x0 :: x1 :: x2 :: x3 :: x4 :: x5 :: y :: ls) (k := 6) rfl hx (by simp only [List.length_cons]; omega)
theorem u_R_marks_15 : ex cal k_R_marks 15 (x0 :: x1 :: x2 :: x3 :: x4 :: x5 :: aI v :: ls) (st) h = ex cal k_R_marks 17 (x0 :: x1 :: x2 :: x3 :: x4 :: x5 :: aI v :: ls) (aI v :: st) h := ex_st cal (s := s_ild 6 17) rfl rfl
theorem u_R_marks_17 : ex cal k_R_marks 17 (x0 :: x1 :: aI v :: ls) (st) h = ex cal k_R_marks 18 (x0 :: x1 :: aI v :: ls) (aI v :: st) h := ex_st cal (s := s_ild 2 18) rfl rfl
theorem u_R_marks_18 : ex cal k_R_marks 18 (ls) (st) h = ex cal k_R_marks 20 (ls) (aI 24 :: st) h := e_push cal rfl
theorem u_R_marks_20 : ex cal k_R_marks 20 (ls) (aI j :: aI i :: st) h = ex cal k_R_marks 21 (ls) (aI (i + j) :: st) h := e_bin cal rfl
theorem u_R_marks_21 : ex cal k_R_marks 21 (ls) (aI j :: aI i :: st) h = if wr i < wr j then ex cal k_R_marks 24 (ls) (st) h else ex cal k_R_marks 40 (ls) (st) h := e_icge cal rfl
theorem u_R_marks_24 : ex cal k_R_marks 24 (x0 :: aQ r :: ls) (st) h = ex cal k_R_marks 25 (x0 :: aQ r :: ls) (aQ r :: st) h := ex_st cal (s := s_ald 1 25) rfl rfl
theorem u_R_marks_25 : ex cal k_R_marks 25 (x0 :: x1 :: x2 :: x3 :: x4 :: x5 :: aI v :: ls) (st) h = ex cal k_R_marks 27 (x0 :: x1 :: x2 :: x3 :: x4 :: x5 :: aI v :: ls) (aI v :: st) h := ex_st cal (s := s_ild 6 27) rfl rfl
theorem u_R_marks_27 : ex cal k_R_marks 27 (x0 :: aQ r :: ls) (st) h = ex cal k_R_marks 28 (x0 :: aQ r :: ls) (aQ r :: st) h := ex_st cal (s := s_ald 1 28) rfl rfl
theorem u_R_marks_28 : ex cal k_R_marks 28 (x0 :: x1 :: x2 :: x3 :: x4 :: x5 :: aI v :: ls) (st) h = ex cal k_R_marks 30 (x0 :: x1 :: x2 :: x3 :: x4 :: x5 :: aI v :: ls) (aI v :: st) h := ex_st cal (s := s_ild 6 30) rfl rfl
theorem u_R_marks_30 : ex cal k_R_marks 30 (ls) (st) h = ex cal k_R_marks 31 (ls) (aI 3 :: st) h := e_push cal rfl
theorem u_R_marks_31 : ex cal k_R_marks 31 (ls) (aI j :: aI i :: st) h = ex cal k_R_marks 32 (ls) (aI (i + j) :: st) h := e_bin cal rfl
theorem u_R_marks_32 : ex cal k_R_marks 32 (ls) (aI i :: aQ (some a) :: st) h = gA h a i (ex cal k_R_marks 33 (ls) (aI (ai h a (wr i)) :: st) h) := e_ia cal rfl
theorem u_R_marks_33 (h3 : 3 ≤ a) : ex cal k_R_marks 33 (ls) (aI v :: aI i :: aQ (some a) :: st) h = gA h a i (ex cal k_R_marks 34 (ls) (st) (sa h a (upf (ai h a) (wr i) v))) := e_ias cal rfl h3
theorem u_R_marks_34 (hx : aNl x5 = true) : ex cal k_R_marks 34 (x0 :: x1 :: x2 :: x3 :: x4 :: x5 :: aI v :: ls) (st) h = ex cal k_R_marks 37 (x0 :: x1 :: x2 :: x3 :: x4 :: x5 :: aI (v + 1) :: ls) (st) h := e_inc (ls := x0 :: x1 :: x2 :: x3 :: x4 :: x5 :: aI v :: ls) (k := 6) rfl rfl hx
theorem u_R_marks_37 : ex cal k_R_marks 37 (ls) (st) h = ex cal k_R_marks 15 (ls) (st) h := ex_st cal (s := s_go 15) rfl rfl
theorem u_R_marks_40 : ex cal k_R_marks 40 (x0 :: aQ r :: ls) (st) h = ex cal k_R_marks 41 (x0 :: aQ r :: ls) (aQ r :: st) h := ex_st cal (s := s_ald 1 41) rfl rfl
theorem u_R_marks_41 : ex cal k_R_marks 41 (x0 :: x1 :: aI v :: ls) (st) h = ex cal k_R_marks 42 (x0 :: x1 :: aI v :: ls) (aI v :: st) h := ex_st cal (s := s_ild 2 42) rfl rfl
theorem u_R_marks_42 : ex cal k_R_marks 42 (ls) (st) h = ex cal k_R_marks 43 (ls) (aI 2 :: st) h := e_push cal rfl
theorem u_R_marks_43 : ex cal k_R_marks 43 (ls) (aI j :: aI i :: st) h = ex cal k_R_marks 44 (ls) (aI (i + j) :: st) h := e_bin cal rfl
theorem u_R_marks_44 (hx : aNl y = true) (hy : aNl y2 = true) : ex cal k_R_marks 44 (ls) (y :: y2 :: st) h = ex cal k_R_marks 45 (ls) (y :: y2 :: y :: y2 :: st) h := e_dup2 rfl hx hy
theorem u_R_marks_45 : ex cal k_R_marks 45 (ls) (aI i :: aQ (some a) :: st) h = gA h a i (ex cal k_R_marks 46 (ls) (aI (ai h a (wr i)) :: st) h) := e_ia cal rfl
theorem u_R_marks_46 : ex cal k_R_marks 46 (ls) (st) h = ex cal k_R_marks 47 (ls) (aI 1 :: st) h := e_push cal rfl
theorem u_R_marks_47 : ex cal k_R_marks 47 (ls) (aI j :: aI i :: st) h = ex cal k_R_marks 48 (ls) (aI (i - j) :: st) h := e_bin cal rfl
theorem u_R_marks_48 (h3 : 3 ≤ a) : ex cal k_R_marks 48 (ls) (aI v :: aI i :: aQ (some a) :: st) h = gA h a i (ex cal k_R_marks 49 (ls) (st) (sa h a (upf (ai h a) (wr i) v))) := e_ias cal rfl h3
theorem u_R_marks_49 : ex cal k_R_marks 49 (x0 :: x1 :: aI v :: ls) (st) h = ex cal k_R_marks 50 (x0 :: x1 :: aI v :: ls) (aI v :: st) h := ex_st cal (s := s_ild 2 50) rfl rfl
theorem u_R_marks_50 : ex cal k_R_marks 50 (ls) (st) h = ex cal k_R_marks 51 (ls) (aI 3 :: st) h := e_push cal rfl
theorem u_R_marks_51 : ex cal k_R_marks 51 (ls) (aI j :: aI i :: st) h = ex cal k_R_marks 52 (ls) (aI (i + j) :: st) h := e_bin cal rfl
theorem u_R_marks_52 : ex cal k_R_marks 52 (ls) (st) h = ex cal k_R_marks 53 (ls) (aI 3 :: st) h := e_push cal rfl
theorem u_R_marks_53 : ex cal k_R_marks 53 (x0 :: aQ r :: ls) (st) h = ex cal k_R_marks 54 (x0 :: aQ r :: ls) (aQ r :: st) h := ex_st cal (s := s_ald 1 54) rfl rfl
theorem u_R_marks_54 : ex cal k_R_marks 54 (x0 :: x1 :: aI v :: ls) (st) h = ex cal k_R_marks 55 (x0 :: x1 :: aI v :: ls) (aI v :: st) h := ex_st cal (s := s_ild 2 55) rfl rfl
theorem u_R_marks_55 : ex cal k_R_marks 55 (ls) (st) h = ex cal k_R_marks 56 (ls) (aI 2 :: st) h := e_push cal rfl
theorem u_R_marks_56 : ex cal k_R_marks 56 (ls) (aI j :: aI i :: st) h = ex cal k_R_marks 57 (ls) (aI (i + j) :: st) h := e_bin cal rfl
theorem u_R_marks_57 : ex cal k_R_marks 57 (ls) (aI i :: aQ (some a) :: st) h = gA h a i (ex cal k_R_marks 58 (ls) (aI (ai h a (wr i)) :: st) h) := e_ia cal rfl
theorem u_R_marks_58 : ex cal k_R_marks 58 (ls) (aI j :: aI i :: st) h = ex cal k_R_marks 59 (ls) (aI (i * j) :: st) h := e_bin cal rfl
theorem u_R_marks_59 : ex cal k_R_marks 59 (ls) (aI j :: aI i :: st) h = ex cal k_R_marks 60 (ls) (aI (i + j) :: st) h := e_bin cal rfl
theorem u_R_marks_60 (hx : aNl x5 = true) : ex cal k_R_marks 60 (x0 :: x1 :: x2 :: x3 :: x4 :: x5 :: y :: ls) (aI v :: st) h = ex cal k_R_marks 62 (x0 :: x1 :: x2 :: x3 :: x4 :: x5 :: aI v :: ls) (st) h := e_ist (ls := x0 :: x1 :: x2 :: x3 :: x4 :: x5 :: y :: ls) (k := 6) rfl hx (by simp only [List.length_cons]; omega)
theorem u_R_marks_62 : ex cal k_R_marks 62 (x0 :: aQ r :: ls) (st) h = ex cal k_R_marks 63 (x0 :: aQ r :: ls) (aQ r :: st) h := ex_st cal (s := s_ald 1 63) rfl rfl
theorem u_R_marks_63 : ex cal k_R_marks 63 (x0 :: x1 :: x2 :: x3 :: x4 :: x5 :: aI v :: ls) (st) h = ex cal k_R_marks 65 (x0 :: x1 :: x2 :: x3 :: x4 :: x5 :: aI v :: ls) (aI v :: st) h := ex_st cal (s := s_ild 6 65) rfl rfl
theorem u_R_marks_65 : ex cal k_R_marks 65 (x0 :: x1 :: x2 :: aI v :: ls) (st) h = ex cal k_R_marks 66 (x0 :: x1 :: x2 :: aI v :: ls) (aI v :: st) h := ex_st cal (s := s_ild 3 66) rfl rfl
theorem u_R_marks_66 (h3 : 3 ≤ a) : ex cal k_R_marks 66 (ls) (aI v :: aI i :: aQ (some a) :: st) h = gA h a i (ex cal k_R_marks 67 (ls) (st) (sa h a (upf (ai h a) (wr i) v))) := e_ias cal rfl h3
theorem u_R_marks_67 : ex cal k_R_marks 67 (x0 :: aQ r :: ls) (st) h = ex cal k_R_marks 68 (x0 :: aQ r :: ls) (aQ r :: st) h := ex_st cal (s := s_ald 1 68) rfl rfl
theorem u_R_marks_68 : ex cal k_R_marks 68 (x0 :: x1 :: x2 :: x3 :: x4 :: x5 :: aI v :: ls) (st) h = ex cal k_R_marks 70 (x0 :: x1 :: x2 :: x3 :: x4 :: x5 :: aI v :: ls) (aI v :: st) h := ex_st cal (s := s_ild 6 70) rfl rfl
theorem u_R_marks_70 : ex cal k_R_marks 70 (ls) (st) h = ex cal k_R_marks 71 (ls) (aI 1 :: st) h := e_push cal rfl
theorem u_R_marks_71 : ex cal k_R_marks 71 (ls) (aI j :: aI i :: st) h = ex cal k_R_marks 72 (ls) (aI (i + j) :: st) h := e_bin cal rfl
theorem u_R_marks_72 : ex cal k_R_marks 72 (x0 :: x1 :: x2 :: x3 :: aI v :: ls) (st) h = ex cal k_R_marks 74 (x0 :: x1 :: x2 :: x3 :: aI v :: ls) (aI v :: st) h := ex_st cal (s := s_ild 4 74) rfl rfl
theorem u_R_marks_74 (h3 : 3 ≤ a) : ex cal k_R_marks 74 (ls) (aI v :: aI i :: aQ (some a) :: st) h = gA h a i (ex cal k_R_marks 75 (ls) (st) (sa h a (upf (ai h a) (wr i) v))) := e_ias cal rfl h3
theorem u_R_marks_75 : ex cal k_R_marks 75 (x0 :: aQ r :: ls) (st) h = ex cal k_R_marks 76 (x0 :: aQ r :: ls) (aQ r :: st) h := ex_st cal (s := s_ald 1 76) rfl rfl
theorem u_R_marks_76 : ex cal k_R_marks 76 (x0 :: x1 :: x2 :: x3 :: x4 :: x5 :: aI v :: ls) (st) h = ex cal k_R_marks 78 (x0 :: x1 :: x2 :: x3 :: x4 :: x5 :: aI v :: ls) (aI v :: st) h := ex_st cal (s := s_ild 6 78) rfl rfl
theorem u_R_marks_78 : ex cal k_R_marks 78 (ls) (st) h = ex cal k_R_marks 79 (ls) (aI 2 :: st) h := e_push cal rfl
theorem u_R_marks_79 : ex cal k_R_marks 79 (ls) (aI j :: aI i :: st) h = ex cal k_R_marks 80 (ls) (aI (i + j) :: st) h := e_bin cal rfl
theorem u_R_marks_80 : ex cal k_R_marks 80 (x0 :: x1 :: x2 :: x3 :: x4 :: aI v :: ls) (st) h = ex cal k_R_marks 82 (x0 :: x1 :: x2 :: x3 :: x4 :: aI v :: ls) (aI v :: st) h := ex_st cal (s := s_ild 5 82) rfl rfl
theorem u_R_marks_82 (h3 : 3 ≤ a) : ex cal k_R_marks 82 (ls) (aI v :: aI i :: aQ (some a) :: st) h = gA h a i (ex cal k_R_marks 83 (ls) (st) (sa h a (upf (ai h a) (wr i) v))) := e_ias cal rfl h3
theorem u_R_marks_83 : ex cal k_R_marks 83 (x0 :: aQ r :: ls) (st) h = ex cal k_R_marks 84 (x0 :: aQ r :: ls) (aQ r :: st) h := ex_st cal (s := s_ald 1 84) rfl rfl
theorem u_R_marks_84 : ex cal k_R_marks 84 (x0 :: x1 :: aI v :: ls) (st) h = ex cal k_R_marks 85 (x0 :: x1 :: aI v :: ls) (aI v :: st) h := ex_st cal (s := s_ild 2 85) rfl rfl
theorem u_R_marks_85 : ex cal k_R_marks 85 (ls) (st) h = ex cal k_R_marks 86 (ls) (aI 2 :: st) h := e_push cal rfl
theorem u_R_marks_86 : ex cal k_R_marks 86 (ls) (aI j :: aI i :: st) h = ex cal k_R_marks 87 (ls) (aI (i + j) :: st) h := e_bin cal rfl
theorem u_R_marks_87 (hx : aNl y = true) (hy : aNl y2 = true) : ex cal k_R_marks 87 (ls) (y :: y2 :: st) h = ex cal k_R_marks 88 (ls) (y :: y2 :: y :: y2 :: st) h := e_dup2 rfl hx hy
theorem u_R_marks_88 : ex cal k_R_marks 88 (ls) (aI i :: aQ (some a) :: st) h = gA h a i (ex cal k_R_marks 89 (ls) (aI (ai h a (wr i)) :: st) h) := e_ia cal rfl
theorem u_R_marks_89 : ex cal k_R_marks 89 (ls) (st) h = ex cal k_R_marks 90 (ls) (aI 1 :: st) h := e_push cal rfl
theorem u_R_marks_90 : ex cal k_R_marks 90 (ls) (aI j :: aI i :: st) h = ex cal k_R_marks 91 (ls) (aI (i + j) :: st) h := e_bin cal rfl
theorem u_R_marks_91 (h3 : 3 ≤ a) : ex cal k_R_marks 91 (ls) (aI v :: aI i :: aQ (some a) :: st) h = gA h a i (ex cal k_R_marks 92 (ls) (st) (sa h a (upf (ai h a) (wr i) v))) := e_ias cal rfl h3
theorem u_R_marks_92 : ex cal k_R_marks 92 (ls) ([]) h = some (none, h) := e_ret0 cal rfl
theorem n_R_marks (d : Nat) : ev (d + 1) M_R_marks [aQ (some a), aQ r0, aI z1, aI z2, aI z3, aI z4] h = ex (ev d) k_R_marks 0 [aQ (some a), aQ r0, aI z1, aI z2, aI z3, aI z4, aU] [] h := rfl
theorem u_R_change_0 : ex cal k_R_change 0 (x0 :: aI v :: ls) (st) h = ex cal k_R_change 1 (x0 :: aI v :: ls) (aI v :: st) h := ex_st cal (s := s_ild 1 1) rfl rfl
theorem u_R_change_1 : ex cal k_R_change 1 (ls) (aI i :: st) h = ex cal k_R_change 2 (ls) (aL (wr i) :: st) h := ex_st cal (s := s_i2l 2) rfl rfl
theorem u_R_change_2 : ex cal k_R_change 2 (ls) (st) h = ex cal k_R_change 3 (ls) (aL 0 :: st) h := e_push cal rfl
theorem u_R_change_3 : ex cal k_R_change 3 (ls) (st) h = ex cal k_R_change 6 (ls) (aL 5 :: st) h := e_push cal rfl
theorem u_R_change_6 (hl : Nat.ble st.length 4 = true) : ex cal k_R_change 6 (ls) (aL z2 :: aL z1 :: aL z0 :: st) h = kk cal k_R_change 9 ls st (cal M_R_isIn [aL z0, aL z1, aL z2] h) := e_call cal (as := [aL z2, aL z1, aL z0]) rfl rfl (Nat.le_of_ble_eq_true hl)
theorem u_R_change_9 : ex cal k_R_change 9 (ls) (aI i :: st) h = if wr i = 0 then ex cal k_R_change 21 (ls) (st) h else ex cal k_R_change 12 (ls) (st) h := e_ifeq cal rfl
theorem u_R_change_12 : ex cal k_R_change 12 (x0 :: aI v :: ls) (st) h = ex cal k_R_change 13 (x0 :: aI v :: ls) (aI v :: st) h := ex_st cal (s := s_ild 1 13) rfl rfl
theorem u_R_change_13 : ex cal k_R_change 13 (ls) (st) h = ex cal k_R_change 14 (ls) (aI 4 :: st) h := e_push cal rfl
theorem u_R_change_14 : ex cal k_R_change 14 (ls) (aI j :: aI i :: st) h = if wr i = wr j then ex cal k_R_change 21 (ls) (st) h else ex cal k_R_change 17 (ls) (st) h := e_iceq cal rfl
theorem u_R_change_17 : ex cal k_R_change 17 (ls) (st) h = ex cal k_R_change 18 (ls) (aI 1 :: st) h := e_push cal rfl
theorem u_R_change_18 : ex cal k_R_change 18 (ls) (st) h = ex cal k_R_change 22 (ls) (st) h := ex_st cal (s := s_go 22) rfl rfl
theorem u_R_change_21 : ex cal k_R_change 21 (ls) (st) h = ex cal k_R_change 22 (ls) (aI 0 :: st) h := e_push cal rfl
theorem u_R_change_22 (hx : aNl x4 = true) : ex cal k_R_change 22 (x0 :: x1 :: x2 :: x3 :: x4 :: y :: ls) (aI v :: st) h = ex cal k_R_change 24 (x0 :: x1 :: x2 :: x3 :: x4 :: aI v :: ls) (st) h := e_ist (ls := x0 :: x1 :: x2 :: x3 :: x4 :: y :: ls) (k := 5) rfl hx (by simp only [List.length_cons]; omega)
theorem u_R_change_24 : ex cal k_R_change 24 (x0 :: aI v :: ls) (st) h = ex cal k_R_change 25 (x0 :: aI v :: ls) (aI v :: st) h := ex_st cal (s := s_ild 1 25) rfl rfl
theorem u_R_change_25 : ex cal k_R_change 25 (ls) (st) h = ex cal k_R_change 26 (ls) (aI 3 :: st) h := e_push cal rfl
theorem u_R_change_26 : ex cal k_R_change 26 (ls) (aI j :: aI i :: st) h = if wr i = wr j then ex cal k_R_change 29 (ls) (st) h else ex cal k_R_change 33 (ls) (st) h := e_icne cal rfl
theorem u_R_change_29 : ex cal k_R_change 29 (ls) (st) h = ex cal k_R_change 30 (ls) (aI 1 :: st) h := e_push cal rfl
theorem u_R_change_30 : ex cal k_R_change 30 (ls) (st) h = ex cal k_R_change 34 (ls) (st) h := ex_st cal (s := s_go 34) rfl rfl
theorem u_R_change_33 : ex cal k_R_change 33 (ls) (st) h = ex cal k_R_change 34 (ls) (aI 0 :: st) h := e_push cal rfl
theorem u_R_change_34 (hx : aNl x5 = true) : ex cal k_R_change 34 (x0 :: x1 :: x2 :: x3 :: x4 :: x5 :: y :: ls) (aI v :: st) h = ex cal k_R_change 36 (x0 :: x1 :: x2 :: x3 :: x4 :: x5 :: aI v :: ls) (st) h := e_ist (ls := x0 :: x1 :: x2 :: x3 :: x4 :: x5 :: y :: ls) (k := 6) rfl hx (by simp only [List.length_cons]; omega)
theorem u_R_change_36 : ex cal k_R_change 36 (x0 :: x1 :: x2 :: x3 :: x4 :: aI v :: ls) (st) h = ex cal k_R_change 38 (x0 :: x1 :: x2 :: x3 :: x4 :: aI v :: ls) (aI v :: st) h := ex_st cal (s := s_ild 5 38) rfl rfl
theorem u_R_change_38 : ex cal k_R_change 38 (ls) (aI i :: st) h = if wr i = 0 then ex cal k_R_change 76 (ls) (st) h else ex cal k_R_change 41 (ls) (st) h := e_ifeq cal rfl
theorem u_R_change_41 : ex cal k_R_change 41 (x0 :: x1 :: aI v :: ls) (st) h = ex cal k_R_change 42 (x0 :: x1 :: aI v :: ls) (aI v :: st) h := ex_st cal (s := s_ild 2 42) rfl rfl
theorem u_R_change_42 (hl : Nat.ble st.length 4 = true) : ex cal k_R_change 42 (ls) (aI z0 :: st) h = kk cal k_R_change 45 ls st (cal M_R_isFile [aI z0] h) := e_call cal (as := [aI z0]) rfl rfl (Nat.le_of_ble_eq_true hl)
theorem u_R_change_45 : ex cal k_R_change 45 (ls) (aI i :: st) h = if wr i = 0 then ex cal k_R_change 76 (ls) (st) h else ex cal k_R_change 48 (ls) (st) h := e_ifeq cal rfl
theorem u_R_change_48 : ex cal k_R_change 48 (aQ r :: ls) (st) h = ex cal k_R_change 49 (aQ r :: ls) (aQ r :: st) h := ex_st cal (s := s_ald 0 49) rfl rfl
theorem u_R_change_49 : ex cal k_R_change 49 (x0 :: x1 :: x2 :: aI v :: ls) (st) h = ex cal k_R_change 50 (x0 :: x1 :: x2 :: aI v :: ls) (aI v :: st) h := ex_st cal (s := s_ild 3 50) rfl rfl
theorem u_R_change_50 (hl : Nat.ble st.length 4 = true) : ex cal k_R_change 50 (ls) (aI z0 :: aQ (some a) :: st) h = gO h a 10 (kk cal k_R_change 53 ls st (cal M_R_isPerson [aQ (some a), aI z0] h)) := e_callV cal (ci := 10) (as := [aI z0]) rfl (by decide) rfl (Nat.le_of_ble_eq_true hl)
theorem u_R_change_53 : ex cal k_R_change 53 (ls) (aI i :: st) h = if wr i = 0 then ex cal k_R_change 76 (ls) (st) h else ex cal k_R_change 56 (ls) (st) h := e_ifeq cal rfl
theorem u_R_change_56 : ex cal k_R_change 56 (x0 :: x1 :: x2 :: x3 :: x4 :: x5 :: aI v :: ls) (st) h = ex cal k_R_change 58 (x0 :: x1 :: x2 :: x3 :: x4 :: x5 :: aI v :: ls) (aI v :: st) h := ex_st cal (s := s_ild 6 58) rfl rfl
theorem u_R_change_58 : ex cal k_R_change 58 (ls) (aI i :: st) h = if wr i = 0 then ex cal k_R_change 82 (ls) (st) h else ex cal k_R_change 61 (ls) (st) h := e_ifeq cal rfl
theorem u_R_change_61 : ex cal k_R_change 61 (aQ r :: ls) (st) h = ex cal k_R_change 62 (aQ r :: ls) (aQ r :: st) h := ex_st cal (s := s_ald 0 62) rfl rfl
theorem u_R_change_62 : ex cal k_R_change 62 (x0 :: x1 :: x2 :: x3 :: aI v :: ls) (st) h = ex cal k_R_change 64 (x0 :: x1 :: x2 :: x3 :: aI v :: ls) (aI v :: st) h := ex_st cal (s := s_ild 4 64) rfl rfl
theorem u_R_change_64 (hl : Nat.ble st.length 4 = true) : ex cal k_R_change 64 (ls) (aI z0 :: aQ (some a) :: st) h = gO h a 10 (kk cal k_R_change 67 ls st (cal M_R_isPerson [aQ (some a), aI z0] h)) := e_callV cal (ci := 10) (as := [aI z0]) rfl (by decide) rfl (Nat.le_of_ble_eq_true hl)
theorem u_R_change_67 : ex cal k_R_change 67 (ls) (aI i :: st) h = if wr i = 0 then ex cal k_R_change 76 (ls) (st) h else ex cal k_R_change 70 (ls) (st) h := e_ifeq cal rfl
theorem u_R_change_70 : ex cal k_R_change 70 (x0 :: x1 :: x2 :: x3 :: aI v :: ls) (st) h = ex cal k_R_change 72 (x0 :: x1 :: x2 :: x3 :: aI v :: ls) (aI v :: st) h := ex_st cal (s := s_ild 4 72) rfl rfl
theorem u_R_change_72 : ex cal k_R_change 72 (x0 :: x1 :: x2 :: aI v :: ls) (st) h = ex cal k_R_change 73 (x0 :: x1 :: x2 :: aI v :: ls) (aI v :: st) h := ex_st cal (s := s_ild 3 73) rfl rfl
theorem u_R_change_73 : ex cal k_R_change 73 (ls) (aI j :: aI i :: st) h = if wr i = wr j then ex cal k_R_change 76 (ls) (st) h else ex cal k_R_change 82 (ls) (st) h := e_icne cal rfl
theorem u_R_change_76 : ex cal k_R_change 76 (aQ r :: ls) (st) h = ex cal k_R_change 77 (aQ r :: ls) (aQ r :: st) h := ex_st cal (s := s_ald 0 77) rfl rfl
theorem u_R_change_77 : ex cal k_R_change 77 (ls) (st) h = ex cal k_R_change 78 (ls) (aI 1 :: st) h := e_push cal rfl
theorem u_R_change_78 (hl : Nat.ble st.length 4 = true) : ex cal k_R_change 78 (ls) (aI z0 :: aQ (some a) :: st) h = gO h a 10 (kk cal k_R_change 81 ls st (cal M_R_refused [aQ (some a), aI z0] h)) := e_callV cal (ci := 10) (as := [aI z0]) rfl (by decide) rfl (Nat.le_of_ble_eq_true hl)
theorem u_R_change_81 : ex cal k_R_change 81 (ls) ([aI v]) h = some (some (aI v), h) := e_ret1 cal rfl
theorem u_R_change_82 : ex cal k_R_change 82 (aQ r :: ls) (st) h = ex cal k_R_change 83 (aQ r :: ls) (aQ r :: st) h := ex_st cal (s := s_ald 0 83) rfl rfl
theorem u_R_change_83 : ex cal k_R_change 83 (ls) (aQ (some a) :: st) h = gO h a 10 (ex cal k_R_change 86 (ls) (gf h a 14 :: st) h) := e_gf cal rfl
theorem u_R_change_86 : ex cal k_R_change 86 (ls) (st) h = ex cal k_R_change 87 (ls) (aI 1 :: st) h := e_push cal rfl
theorem u_R_change_87 : ex cal k_R_change 87 (ls) (aI i :: aQ (some a) :: st) h = gA h a i (ex cal k_R_change 88 (ls) (aI (ai h a (wr i)) :: st) h) := e_ia cal rfl
theorem u_R_change_88 : ex cal k_R_change 88 (ls) (st) h = ex cal k_R_change 90 (ls) (aI 60 :: st) h := e_push cal rfl
theorem u_R_change_90 : ex cal k_R_change 90 (ls) (aI j :: aI i :: st) h = if wr i = wr j then ex cal k_R_change 93 (ls) (st) h else ex cal k_R_change 99 (ls) (st) h := e_icne cal rfl
theorem u_R_change_93 : ex cal k_R_change 93 (aQ r :: ls) (st) h = ex cal k_R_change 94 (aQ r :: ls) (aQ r :: st) h := ex_st cal (s := s_ald 0 94) rfl rfl
theorem u_R_change_94 : ex cal k_R_change 94 (ls) (st) h = ex cal k_R_change 95 (ls) (aI 2 :: st) h := e_push cal rfl
theorem u_R_change_95 (hl : Nat.ble st.length 4 = true) : ex cal k_R_change 95 (ls) (aI z0 :: aQ (some a) :: st) h = gO h a 10 (kk cal k_R_change 98 ls st (cal M_R_refused [aQ (some a), aI z0] h)) := e_callV cal (ci := 10) (as := [aI z0]) rfl (by decide) rfl (Nat.le_of_ble_eq_true hl)
theorem u_R_change_98 : ex cal k_R_change 98 (ls) ([aI v]) h = some (some (aI v), h) := e_ret1 cal rfl
theorem u_R_change_99 : ex cal k_R_change 99 (aQ r :: ls) (st) h = ex cal k_R_change 100 (aQ r :: ls) (aQ r :: st) h := ex_st cal (s := s_ald 0 100) rfl rfl
theorem u_R_change_100 : ex cal k_R_change 100 (x0 :: x1 :: x2 :: aI v :: ls) (st) h = ex cal k_R_change 101 (x0 :: x1 :: x2 :: aI v :: ls) (aI v :: st) h := ex_st cal (s := s_ild 3 101) rfl rfl
theorem u_R_change_101 (hl : Nat.ble st.length 4 = true) : ex cal k_R_change 101 (ls) (aI z0 :: aQ (some a) :: st) h = gO h a 10 (kk cal k_R_change 104 ls st (cal M_R_isHere [aQ (some a), aI z0] h)) := e_callV cal (ci := 10) (as := [aI z0]) rfl (by decide) rfl (Nat.le_of_ble_eq_true hl)
theorem u_R_change_104 : ex cal k_R_change 104 (ls) (aI i :: st) h = if wr i = 0 then ex cal k_R_change 121 (ls) (st) h else ex cal k_R_change 107 (ls) (st) h := e_ifeq cal rfl
theorem u_R_change_107 : ex cal k_R_change 107 (x0 :: x1 :: x2 :: x3 :: x4 :: x5 :: aI v :: ls) (st) h = ex cal k_R_change 109 (x0 :: x1 :: x2 :: x3 :: x4 :: x5 :: aI v :: ls) (aI v :: st) h := ex_st cal (s := s_ild 6 109) rfl rfl
theorem u_R_change_109 : ex cal k_R_change 109 (ls) (aI i :: st) h = if wr i = 0 then ex cal k_R_change 127 (ls) (st) h else ex cal k_R_change 112 (ls) (st) h := e_ifeq cal rfl
theorem u_R_change_112 : ex cal k_R_change 112 (aQ r :: ls) (st) h = ex cal k_R_change 113 (aQ r :: ls) (aQ r :: st) h := ex_st cal (s := s_ald 0 113) rfl rfl
theorem u_R_change_113 : ex cal k_R_change 113 (x0 :: x1 :: x2 :: x3 :: aI v :: ls) (st) h = ex cal k_R_change 115 (x0 :: x1 :: x2 :: x3 :: aI v :: ls) (aI v :: st) h := ex_st cal (s := s_ild 4 115) rfl rfl
theorem u_R_change_115 (hl : Nat.ble st.length 4 = true) : ex cal k_R_change 115 (ls) (aI z0 :: aQ (some a) :: st) h = gO h a 10 (kk cal k_R_change 118 ls st (cal M_R_isHere [aQ (some a), aI z0] h)) := e_callV cal (ci := 10) (as := [aI z0]) rfl (by decide) rfl (Nat.le_of_ble_eq_true hl)
theorem u_R_change_118 : ex cal k_R_change 118 (ls) (aI i :: st) h = if wr i = 0 then ex cal k_R_change 121 (ls) (st) h else ex cal k_R_change 127 (ls) (st) h := e_ifne cal rfl
theorem u_R_change_121 : ex cal k_R_change 121 (aQ r :: ls) (st) h = ex cal k_R_change 122 (aQ r :: ls) (aQ r :: st) h := ex_st cal (s := s_ald 0 122) rfl rfl
theorem u_R_change_122 : ex cal k_R_change 122 (ls) (st) h = ex cal k_R_change 123 (ls) (aI 3 :: st) h := e_push cal rfl
theorem u_R_change_123 (hl : Nat.ble st.length 4 = true) : ex cal k_R_change 123 (ls) (aI z0 :: aQ (some a) :: st) h = gO h a 10 (kk cal k_R_change 126 ls st (cal M_R_refused [aQ (some a), aI z0] h)) := e_callV cal (ci := 10) (as := [aI z0]) rfl (by decide) rfl (Nat.le_of_ble_eq_true hl)
theorem u_R_change_126 : ex cal k_R_change 126 (ls) ([aI v]) h = some (some (aI v), h) := e_ret1 cal rfl
theorem u_R_change_127 : ex cal k_R_change 127 (aQ r :: ls) (st) h = ex cal k_R_change 128 (aQ r :: ls) (aQ r :: st) h := ex_st cal (s := s_ald 0 128) rfl rfl
theorem u_R_change_128 : ex cal k_R_change 128 (x0 :: aI v :: ls) (st) h = ex cal k_R_change 129 (x0 :: aI v :: ls) (aI v :: st) h := ex_st cal (s := s_ild 1 129) rfl rfl
theorem u_R_change_129 : ex cal k_R_change 129 (x0 :: x1 :: aI v :: ls) (st) h = ex cal k_R_change 130 (x0 :: x1 :: aI v :: ls) (aI v :: st) h := ex_st cal (s := s_ild 2 130) rfl rfl
theorem u_R_change_130 : ex cal k_R_change 130 (x0 :: x1 :: x2 :: aI v :: ls) (st) h = ex cal k_R_change 131 (x0 :: x1 :: x2 :: aI v :: ls) (aI v :: st) h := ex_st cal (s := s_ild 3 131) rfl rfl
theorem u_R_change_131 : ex cal k_R_change 131 (x0 :: x1 :: x2 :: x3 :: x4 :: x5 :: aI v :: ls) (st) h = ex cal k_R_change 133 (x0 :: x1 :: x2 :: x3 :: x4 :: x5 :: aI v :: ls) (aI v :: st) h := ex_st cal (s := s_ild 6 133) rfl rfl
theorem u_R_change_133 : ex cal k_R_change 133 (ls) (aI i :: st) h = if wr i = 0 then ex cal k_R_change 141 (ls) (st) h else ex cal k_R_change 136 (ls) (st) h := e_ifeq cal rfl
theorem u_R_change_136 : ex cal k_R_change 136 (x0 :: x1 :: x2 :: x3 :: aI v :: ls) (st) h = ex cal k_R_change 138 (x0 :: x1 :: x2 :: x3 :: aI v :: ls) (aI v :: st) h := ex_st cal (s := s_ild 4 138) rfl rfl
theorem u_R_change_138 : ex cal k_R_change 138 (ls) (st) h = ex cal k_R_change 142 (ls) (st) h := ex_st cal (s := s_go 142) rfl rfl
theorem u_R_change_141 : ex cal k_R_change 141 (ls) (st) h = ex cal k_R_change 142 (ls) (aI (-1) :: st) h := e_push cal rfl
theorem u_R_change_142 (hl : Nat.ble st.length 4 = true) : ex cal k_R_change 142 (ls) (aI z3 :: aI z2 :: aI z1 :: aI z0 :: aQ (some a) :: st) h = gO h a 10 (kk cal k_R_change 145 ls st (cal M_R_comes [aQ (some a), aI z0, aI z1, aI z2, aI z3] h)) := e_callV cal (ci := 10) (as := [aI z3, aI z2, aI z1, aI z0]) rfl (by decide) rfl (Nat.le_of_ble_eq_true hl)
theorem u_R_change_145 (hx : aNl x6 = true) : ex cal k_R_change 145 (x0 :: x1 :: x2 :: x3 :: x4 :: x5 :: x6 :: y :: ls) (aI v :: st) h = ex cal k_R_change 147 (x0 :: x1 :: x2 :: x3 :: x4 :: x5 :: x6 :: aI v :: ls) (st) h := e_ist (ls := x0 :: x1 :: x2 :: x3 :: x4 :: x5 :: x6 :: y :: ls) (k := 7) rfl hx (by simp only [List.length_cons]; omega)
theorem u_R_change_147 : ex cal k_R_change 147 (aQ r :: ls) (st) h = ex cal k_R_change 148 (aQ r :: ls) (aQ r :: st) h := ex_st cal (s := s_ald 0 148) rfl rfl
theorem u_R_change_148 : ex cal k_R_change 148 (x0 :: x1 :: aI v :: ls) (st) h = ex cal k_R_change 149 (x0 :: x1 :: aI v :: ls) (aI v :: st) h := ex_st cal (s := s_ild 2 149) rfl rfl
theorem u_R_change_149 : ex cal k_R_change 149 (x0 :: aI v :: ls) (st) h = ex cal k_R_change 150 (x0 :: aI v :: ls) (aI v :: st) h := ex_st cal (s := s_ild 1 150) rfl rfl
theorem u_R_change_150 : ex cal k_R_change 150 (ls) (st) h = ex cal k_R_change 151 (ls) (aI 1 :: st) h := e_push cal rfl
theorem u_R_change_151 : ex cal k_R_change 151 (ls) (aI j :: aI i :: st) h = if wr i = wr j then ex cal k_R_change 159 (ls) (st) h else ex cal k_R_change 154 (ls) (st) h := e_iceq cal rfl
theorem u_R_change_154 : ex cal k_R_change 154 (x0 :: aI v :: ls) (st) h = ex cal k_R_change 155 (x0 :: aI v :: ls) (aI v :: st) h := ex_st cal (s := s_ild 1 155) rfl rfl
theorem u_R_change_155 : ex cal k_R_change 155 (ls) (st) h = ex cal k_R_change 156 (ls) (aI 5 :: st) h := e_push cal rfl
theorem u_R_change_156 : ex cal k_R_change 156 (ls) (aI j :: aI i :: st) h = if wr i = wr j then ex cal k_R_change 159 (ls) (st) h else ex cal k_R_change 163 (ls) (st) h := e_icne cal rfl
theorem u_R_change_159 : ex cal k_R_change 159 (ls) (st) h = ex cal k_R_change 160 (ls) (aI 1 :: st) h := e_push cal rfl
theorem u_R_change_160 : ex cal k_R_change 160 (ls) (st) h = ex cal k_R_change 164 (ls) (st) h := ex_st cal (s := s_go 164) rfl rfl
theorem u_R_change_163 : ex cal k_R_change 163 (ls) (st) h = ex cal k_R_change 164 (ls) (aI 0 :: st) h := e_push cal rfl
theorem u_R_change_164 (hl : Nat.ble st.length 4 = true) : ex cal k_R_change 164 (ls) (aI z1 :: aI z0 :: aQ (some a) :: st) h = gO h a 10 (kk cal k_R_change 167 ls st (cal M_R_pairs [aQ (some a), aI z0, aI z1] h)) := e_callV cal (ci := 10) (as := [aI z1, aI z0]) rfl (by decide) rfl (Nat.le_of_ble_eq_true hl)
theorem u_R_change_167 : ex cal k_R_change 167 (x0 :: aI v :: ls) (st) h = ex cal k_R_change 168 (x0 :: aI v :: ls) (aI v :: st) h := ex_st cal (s := s_ild 1 168) rfl rfl
theorem u_R_change_168 : ex cal k_R_change 168 (ls) (st) h = ex cal k_R_change 169 (ls) (aI 5 :: st) h := e_push cal rfl
theorem u_R_change_169 : ex cal k_R_change 169 (ls) (aI j :: aI i :: st) h = if wr i = wr j then ex cal k_R_change 172 (ls) (st) h else ex cal k_R_change 177 (ls) (st) h := e_icne cal rfl
theorem u_R_change_172 : ex cal k_R_change 172 (aQ r :: ls) (st) h = ex cal k_R_change 173 (aQ r :: ls) (aQ r :: st) h := ex_st cal (s := s_ald 0 173) rfl rfl
theorem u_R_change_173 : ex cal k_R_change 173 (x0 :: x1 :: aI v :: ls) (st) h = ex cal k_R_change 174 (x0 :: x1 :: aI v :: ls) (aI v :: st) h := ex_st cal (s := s_ild 2 174) rfl rfl
theorem u_R_change_174 (hl : Nat.ble st.length 4 = true) : ex cal k_R_change 174 (ls) (aI z0 :: aQ (some a) :: st) h = gO h a 10 (kk cal k_R_change 177 ls st (cal M_R_moves [aQ (some a), aI z0] h)) := e_callV cal (ci := 10) (as := [aI z0]) rfl (by decide) rfl (Nat.le_of_ble_eq_true hl)
theorem u_R_change_177 : ex cal k_R_change 177 (aQ r :: ls) (st) h = ex cal k_R_change 178 (aQ r :: ls) (aQ r :: st) h := ex_st cal (s := s_ald 0 178) rfl rfl
theorem u_R_change_178 : ex cal k_R_change 178 (ls) (aQ (some a) :: st) h = gO h a 10 (ex cal k_R_change 181 (ls) (gf h a 10 :: st) h) := e_gf cal rfl
theorem u_R_change_181 : ex cal k_R_change 181 (x0 :: x1 :: x2 :: x3 :: x4 :: x5 :: x6 :: aI v :: ls) (st) h = ex cal k_R_change 183 (x0 :: x1 :: x2 :: x3 :: x4 :: x5 :: x6 :: aI v :: ls) (aI v :: st) h := ex_st cal (s := s_ild 7 183) rfl rfl
theorem u_R_change_183 : ex cal k_R_change 183 (ls) (st) h = ex cal k_R_change 184 (ls) (aI 0 :: st) h := e_push cal rfl
theorem u_R_change_184 (h3 : 3 ≤ a) : ex cal k_R_change 184 (ls) (aI v :: aI i :: aQ (some a) :: st) h = gA h a i (ex cal k_R_change 185 (ls) (st) (sa h a (upf (ai h a) (wr i) v))) := e_ias cal rfl h3
theorem u_R_change_185 : ex cal k_R_change 185 (ls) (st) h = ex cal k_R_change 186 (ls) (aI 0 :: st) h := e_push cal rfl
theorem u_R_change_186 (hx : aNl x7 = true) : ex cal k_R_change 186 (x0 :: x1 :: x2 :: x3 :: x4 :: x5 :: x6 :: x7 :: y :: ls) (aI v :: st) h = ex cal k_R_change 188 (x0 :: x1 :: x2 :: x3 :: x4 :: x5 :: x6 :: x7 :: aI v :: ls) (st) h := e_ist (ls := x0 :: x1 :: x2 :: x3 :: x4 :: x5 :: x6 :: x7 :: y :: ls) (k := 8) rfl hx (by simp only [List.length_cons]; omega)
theorem u_R_change_188 : ex cal k_R_change 188 (x0 :: x1 :: x2 :: x3 :: x4 :: x5 :: x6 :: x7 :: aI v :: ls) (st) h = ex cal k_R_change 190 (x0 :: x1 :: x2 :: x3 :: x4 :: x5 :: x6 :: x7 :: aI v :: ls) (aI v :: st) h := ex_st cal (s := s_ild 8 190) rfl rfl
theorem u_R_change_190 : ex cal k_R_change 190 (aQ r :: ls) (st) h = ex cal k_R_change 191 (aQ r :: ls) (aQ r :: st) h := ex_st cal (s := s_ald 0 191) rfl rfl
theorem u_R_change_191 : ex cal k_R_change 191 (ls) (aQ (some a) :: st) h = gO h a 10 (ex cal k_R_change 194 (ls) (gf h a 14 :: st) h) := e_gf cal rfl
theorem u_R_change_194 : ex cal k_R_change 194 (ls) (st) h = ex cal k_R_change 195 (ls) (aI 2 :: st) h := e_push cal rfl
theorem u_R_change_195 : ex cal k_R_change 195 (ls) (aI i :: aQ (some a) :: st) h = gA h a i (ex cal k_R_change 196 (ls) (aI (ai h a (wr i)) :: st) h) := e_ia cal rfl
theorem u_R_change_196 : ex cal k_R_change 196 (ls) (aI j :: aI i :: st) h = if wr i < wr j then ex cal k_R_change 199 (ls) (st) h else ex cal k_R_change 400 (ls) (st) h := e_icge cal rfl
theorem u_R_change_199 : ex cal k_R_change 199 (ls) (st) h = ex cal k_R_change 201 (ls) (aI 27 :: st) h := e_push cal rfl
theorem u_R_change_201 : ex cal k_R_change 201 (x0 :: x1 :: x2 :: x3 :: x4 :: x5 :: x6 :: x7 :: aI v :: ls) (st) h = ex cal k_R_change 203 (x0 :: x1 :: x2 :: x3 :: x4 :: x5 :: x6 :: x7 :: aI v :: ls) (aI v :: st) h := ex_st cal (s := s_ild 8 203) rfl rfl
theorem u_R_change_203 : ex cal k_R_change 203 (ls) (aI j :: aI i :: st) h = ex cal k_R_change 204 (ls) (aI (i * j) :: st) h := e_bin cal rfl
theorem u_R_change_204 (hx : aNl x8 = true) : ex cal k_R_change 204 (x0 :: x1 :: x2 :: x3 :: x4 :: x5 :: x6 :: x7 :: x8 :: y :: ls) (aI v :: st) h = ex cal k_R_change 206 (x0 :: x1 :: x2 :: x3 :: x4 :: x5 :: x6 :: x7 :: x8 :: aI v :: ls) (st) h := e_ist (ls := x0 :: x1 :: x2 :: x3 :: x4 :: x5 :: x6 :: x7 :: x8 :: y :: ls) (k := 9) rfl hx (by simp only [List.length_cons]; omega)
theorem u_R_change_206 : ex cal k_R_change 206 (ls) (st) h = ex cal k_R_change 207 (ls) (aI 0 :: st) h := e_push cal rfl
theorem u_R_change_207 (hx : aNl x9 = true) : ex cal k_R_change 207 (x0 :: x1 :: x2 :: x3 :: x4 :: x5 :: x6 :: x7 :: x8 :: x9 :: y :: ls) (aI v :: st) h = ex cal k_R_change 209 (x0 :: x1 :: x2 :: x3 :: x4 :: x5 :: x6 :: x7 :: x8 :: x9 :: aI v :: ls) (st) h := e_ist (ls := x0 :: x1 :: x2 :: x3 :: x4 :: x5 :: x6 :: x7 :: x8 :: x9 :: y :: ls) (k := 10) rfl hx (by simp only [List.length_cons]; omega)
theorem u_R_change_209 : ex cal k_R_change 209 (x0 :: x1 :: x2 :: x3 :: x4 :: x5 :: x6 :: x7 :: x8 :: x9 :: aI v :: ls) (st) h = ex cal k_R_change 211 (x0 :: x1 :: x2 :: x3 :: x4 :: x5 :: x6 :: x7 :: x8 :: x9 :: aI v :: ls) (aI v :: st) h := ex_st cal (s := s_ild 10 211) rfl rfl
theorem u_R_change_211 : ex cal k_R_change 211 (ls) (st) h = ex cal k_R_change 213 (ls) (aI 27 :: st) h := e_push cal rfl
theorem u_R_change_213 : ex cal k_R_change 213 (ls) (aI j :: aI i :: st) h = if wr i < wr j then ex cal k_R_change 216 (ls) (st) h else ex cal k_R_change 270 (ls) (st) h := e_icge cal rfl
theorem u_R_change_216 : ex cal k_R_change 216 (aQ r :: ls) (st) h = ex cal k_R_change 217 (aQ r :: ls) (aQ r :: st) h := ex_st cal (s := s_ald 0 217) rfl rfl
theorem u_R_change_217 : ex cal k_R_change 217 (ls) (aQ (some a) :: st) h = gO h a 10 (ex cal k_R_change 220 (ls) (gf h a 4 :: st) h) := e_gf cal rfl
theorem u_R_change_220 : ex cal k_R_change 220 (x0 :: x1 :: x2 :: x3 :: x4 :: x5 :: x6 :: x7 :: x8 :: aI v :: ls) (st) h = ex cal k_R_change 222 (x0 :: x1 :: x2 :: x3 :: x4 :: x5 :: x6 :: x7 :: x8 :: aI v :: ls) (aI v :: st) h := ex_st cal (s := s_ild 9 222) rfl rfl
theorem u_R_change_222 : ex cal k_R_change 222 (x0 :: x1 :: x2 :: x3 :: x4 :: x5 :: x6 :: x7 :: x8 :: x9 :: aI v :: ls) (st) h = ex cal k_R_change 224 (x0 :: x1 :: x2 :: x3 :: x4 :: x5 :: x6 :: x7 :: x8 :: x9 :: aI v :: ls) (aI v :: st) h := ex_st cal (s := s_ild 10 224) rfl rfl
theorem u_R_change_224 : ex cal k_R_change 224 (ls) (aI j :: aI i :: st) h = ex cal k_R_change 225 (ls) (aI (i + j) :: st) h := e_bin cal rfl
theorem u_R_change_225 : ex cal k_R_change 225 (aQ r :: ls) (st) h = ex cal k_R_change 226 (aQ r :: ls) (aQ r :: st) h := ex_st cal (s := s_ald 0 226) rfl rfl
theorem u_R_change_226 : ex cal k_R_change 226 (ls) (aQ (some a) :: st) h = gO h a 10 (ex cal k_R_change 229 (ls) (gf h a 20 :: st) h) := e_gf cal rfl
theorem u_R_change_229 : ex cal k_R_change 229 (x0 :: x1 :: x2 :: x3 :: x4 :: x5 :: x6 :: x7 :: aI v :: ls) (st) h = ex cal k_R_change 231 (x0 :: x1 :: x2 :: x3 :: x4 :: x5 :: x6 :: x7 :: aI v :: ls) (aI v :: st) h := ex_st cal (s := s_ild 8 231) rfl rfl
theorem u_R_change_231 : ex cal k_R_change 231 (ls) (aI i :: aQ (some a) :: st) h = gA h a i (ex cal k_R_change 232 (ls) (aI (ai h a (wr i)) :: st) h) := e_ia cal rfl
theorem u_R_change_232 : ex cal k_R_change 232 (ls) (aI i :: st) h = if wr i < 0 then ex cal k_R_change 235 (ls) (st) h else ex cal k_R_change 239 (ls) (st) h := e_ifge cal rfl
theorem u_R_change_235 : ex cal k_R_change 235 (ls) (st) h = ex cal k_R_change 236 (ls) (aI 0 :: st) h := e_push cal rfl
theorem u_R_change_236 : ex cal k_R_change 236 (ls) (st) h = ex cal k_R_change 263 (ls) (st) h := ex_st cal (s := s_go 263) rfl rfl
theorem u_R_change_239 : ex cal k_R_change 239 (aQ r :: ls) (st) h = ex cal k_R_change 240 (aQ r :: ls) (aQ r :: st) h := ex_st cal (s := s_ald 0 240) rfl rfl
theorem u_R_change_240 : ex cal k_R_change 240 (ls) (aQ (some a) :: st) h = gO h a 10 (ex cal k_R_change 243 (ls) (gf h a 0 :: st) h) := e_gf cal rfl
theorem u_R_change_243 : ex cal k_R_change 243 (ls) (st) h = ex cal k_R_change 246 (ls) (aI 540 :: st) h := e_push cal rfl
theorem u_R_change_246 : ex cal k_R_change 246 (x0 :: x1 :: aI v :: ls) (st) h = ex cal k_R_change 247 (x0 :: x1 :: aI v :: ls) (aI v :: st) h := ex_st cal (s := s_ild 2 247) rfl rfl
theorem u_R_change_247 : ex cal k_R_change 247 (ls) (aI j :: aI i :: st) h = ex cal k_R_change 248 (ls) (aI (i * j) :: st) h := e_bin cal rfl
theorem u_R_change_248 : ex cal k_R_change 248 (ls) (st) h = ex cal k_R_change 250 (ls) (aI 27 :: st) h := e_push cal rfl
theorem u_R_change_250 : ex cal k_R_change 250 (aQ r :: ls) (st) h = ex cal k_R_change 251 (aQ r :: ls) (aQ r :: st) h := ex_st cal (s := s_ald 0 251) rfl rfl
theorem u_R_change_251 : ex cal k_R_change 251 (ls) (aQ (some a) :: st) h = gO h a 10 (ex cal k_R_change 254 (ls) (gf h a 20 :: st) h) := e_gf cal rfl
theorem u_R_change_254 : ex cal k_R_change 254 (x0 :: x1 :: x2 :: x3 :: x4 :: x5 :: x6 :: x7 :: aI v :: ls) (st) h = ex cal k_R_change 256 (x0 :: x1 :: x2 :: x3 :: x4 :: x5 :: x6 :: x7 :: aI v :: ls) (aI v :: st) h := ex_st cal (s := s_ild 8 256) rfl rfl
theorem u_R_change_256 : ex cal k_R_change 256 (ls) (aI i :: aQ (some a) :: st) h = gA h a i (ex cal k_R_change 257 (ls) (aI (ai h a (wr i)) :: st) h) := e_ia cal rfl
theorem u_R_change_257 : ex cal k_R_change 257 (ls) (aI j :: aI i :: st) h = ex cal k_R_change 258 (ls) (aI (i * j) :: st) h := e_bin cal rfl
theorem u_R_change_258 : ex cal k_R_change 258 (ls) (aI j :: aI i :: st) h = ex cal k_R_change 259 (ls) (aI (i + j) :: st) h := e_bin cal rfl
theorem u_R_change_259 : ex cal k_R_change 259 (x0 :: x1 :: x2 :: x3 :: x4 :: x5 :: x6 :: x7 :: x8 :: x9 :: aI v :: ls) (st) h = ex cal k_R_change 261 (x0 :: x1 :: x2 :: x3 :: x4 :: x5 :: x6 :: x7 :: x8 :: x9 :: aI v :: ls) (aI v :: st) h := ex_st cal (s := s_ild 10 261) rfl rfl
theorem u_R_change_261 : ex cal k_R_change 261 (ls) (aI j :: aI i :: st) h = ex cal k_R_change 262 (ls) (aI (i + j) :: st) h := e_bin cal rfl
theorem u_R_change_262 : ex cal k_R_change 262 (ls) (aI i :: aQ (some a) :: st) h = gA h a i (ex cal k_R_change 263 (ls) (aI (ai h a (wr i)) :: st) h) := e_ia cal rfl
theorem u_R_change_263 (h3 : 3 ≤ a) : ex cal k_R_change 263 (ls) (aI v :: aI i :: aQ (some a) :: st) h = gA h a i (ex cal k_R_change 264 (ls) (st) (sa h a (upf (ai h a) (wr i) v))) := e_ias cal rfl h3
theorem u_R_change_264 (hx : aNl x9 = true) : ex cal k_R_change 264 (x0 :: x1 :: x2 :: x3 :: x4 :: x5 :: x6 :: x7 :: x8 :: x9 :: aI v :: ls) (st) h = ex cal k_R_change 267 (x0 :: x1 :: x2 :: x3 :: x4 :: x5 :: x6 :: x7 :: x8 :: x9 :: aI (v + 1) :: ls) (st) h := e_inc (ls := x0 :: x1 :: x2 :: x3 :: x4 :: x5 :: x6 :: x7 :: x8 :: x9 :: aI v :: ls) (k := 10) rfl rfl hx
theorem u_R_change_267 : ex cal k_R_change 267 (ls) (st) h = ex cal k_R_change 209 (ls) (st) h := ex_st cal (s := s_go 209) rfl rfl
theorem u_R_change_270 : ex cal k_R_change 270 (aQ r :: ls) (st) h = ex cal k_R_change 271 (aQ r :: ls) (aQ r :: st) h := ex_st cal (s := s_ald 0 271) rfl rfl
theorem u_R_change_271 : ex cal k_R_change 271 (ls) (aQ (some a) :: st) h = gO h a 10 (ex cal k_R_change 274 (ls) (gf h a 4 :: st) h) := e_gf cal rfl
theorem u_R_change_274 : ex cal k_R_change 274 (x0 :: x1 :: x2 :: x3 :: x4 :: x5 :: x6 :: x7 :: x8 :: aI v :: ls) (st) h = ex cal k_R_change 276 (x0 :: x1 :: x2 :: x3 :: x4 :: x5 :: x6 :: x7 :: x8 :: aI v :: ls) (aI v :: st) h := ex_st cal (s := s_ild 9 276) rfl rfl
theorem u_R_change_276 : ex cal k_R_change 276 (aQ r :: ls) (st) h = ex cal k_R_change 277 (aQ r :: ls) (aQ r :: st) h := ex_st cal (s := s_ald 0 277) rfl rfl
theorem u_R_change_277 : ex cal k_R_change 277 (ls) (aQ (some a) :: st) h = gO h a 10 (ex cal k_R_change 280 (ls) (gf h a 13 :: st) h) := e_gf cal rfl
theorem u_R_change_280 : ex cal k_R_change 280 (x0 :: x1 :: x2 :: x3 :: x4 :: x5 :: x6 :: x7 :: aI v :: ls) (st) h = ex cal k_R_change 282 (x0 :: x1 :: x2 :: x3 :: x4 :: x5 :: x6 :: x7 :: aI v :: ls) (aI v :: st) h := ex_st cal (s := s_ild 8 282) rfl rfl
theorem u_R_change_282 : ex cal k_R_change 282 (ls) (aI i :: aQ (some a) :: st) h = gA h a i (ex cal k_R_change 283 (ls) (aI (ai h a (wr i)) :: st) h) := e_ia cal rfl
theorem u_R_change_283 (h3 : 3 ≤ a) : ex cal k_R_change 283 (ls) (aI v :: aI i :: aQ (some a) :: st) h = gA h a i (ex cal k_R_change 284 (ls) (st) (sa h a (upf (ai h a) (wr i) v))) := e_ias cal rfl h3
theorem u_R_change_284 : ex cal k_R_change 284 (aQ r :: ls) (st) h = ex cal k_R_change 285 (aQ r :: ls) (aQ r :: st) h := ex_st cal (s := s_ald 0 285) rfl rfl
theorem u_R_change_285 : ex cal k_R_change 285 (ls) (aQ (some a) :: st) h = gO h a 10 (ex cal k_R_change 288 (ls) (gf h a 10 :: st) h) := e_gf cal rfl
theorem u_R_change_288 : ex cal k_R_change 288 (x0 :: x1 :: x2 :: x3 :: x4 :: x5 :: x6 :: aI v :: ls) (st) h = ex cal k_R_change 290 (x0 :: x1 :: x2 :: x3 :: x4 :: x5 :: x6 :: aI v :: ls) (aI v :: st) h := ex_st cal (s := s_ild 7 290) rfl rfl
theorem u_R_change_290 (hx : aNl y = true) (hy : aNl y2 = true) : ex cal k_R_change 290 (ls) (y :: y2 :: st) h = ex cal k_R_change 291 (ls) (y :: y2 :: y :: y2 :: st) h := e_dup2 rfl hx hy
theorem u_R_change_291 : ex cal k_R_change 291 (ls) (aI i :: aQ (some a) :: st) h = gA h a i (ex cal k_R_change 292 (ls) (aI (ai h a (wr i)) :: st) h) := e_ia cal rfl
theorem u_R_change_292 : ex cal k_R_change 292 (aQ r :: ls) (st) h = ex cal k_R_change 293 (aQ r :: ls) (aQ r :: st) h := ex_st cal (s := s_ald 0 293) rfl rfl
theorem u_R_change_293 : ex cal k_R_change 293 (ls) (aQ (some a) :: st) h = gO h a 10 (ex cal k_R_change 296 (ls) (gf h a 20 :: st) h) := e_gf cal rfl
theorem u_R_change_296 : ex cal k_R_change 296 (x0 :: x1 :: x2 :: x3 :: x4 :: x5 :: x6 :: x7 :: aI v :: ls) (st) h = ex cal k_R_change 298 (x0 :: x1 :: x2 :: x3 :: x4 :: x5 :: x6 :: x7 :: aI v :: ls) (aI v :: st) h := ex_st cal (s := s_ild 8 298) rfl rfl
theorem u_R_change_298 : ex cal k_R_change 298 (ls) (aI i :: aQ (some a) :: st) h = gA h a i (ex cal k_R_change 299 (ls) (aI (ai h a (wr i)) :: st) h) := e_ia cal rfl
theorem u_R_change_299 : ex cal k_R_change 299 (ls) (aI i :: st) h = if wr i < 0 then ex cal k_R_change 302 (ls) (st) h else ex cal k_R_change 306 (ls) (st) h := e_ifge cal rfl
theorem u_R_change_302 : ex cal k_R_change 302 (ls) (st) h = ex cal k_R_change 303 (ls) (aI 0 :: st) h := e_push cal rfl
theorem u_R_change_303 : ex cal k_R_change 303 (ls) (st) h = ex cal k_R_change 307 (ls) (st) h := ex_st cal (s := s_go 307) rfl rfl
theorem u_R_change_306 : ex cal k_R_change 306 (ls) (st) h = ex cal k_R_change 307 (ls) (aI 1 :: st) h := e_push cal rfl
theorem u_R_change_307 : ex cal k_R_change 307 (ls) (aI j :: aI i :: st) h = ex cal k_R_change 308 (ls) (aI (i + j) :: st) h := e_bin cal rfl
theorem u_R_change_308 (h3 : 3 ≤ a) : ex cal k_R_change 308 (ls) (aI v :: aI i :: aQ (some a) :: st) h = gA h a i (ex cal k_R_change 309 (ls) (st) (sa h a (upf (ai h a) (wr i) v))) := e_ias cal rfl h3
theorem u_R_change_309 : ex cal k_R_change 309 (aQ r :: ls) (st) h = ex cal k_R_change 310 (aQ r :: ls) (aQ r :: st) h := ex_st cal (s := s_ald 0 310) rfl rfl
theorem u_R_change_310 : ex cal k_R_change 310 (ls) (aQ (some a) :: st) h = gO h a 10 (ex cal k_R_change 313 (ls) (gf h a 20 :: st) h) := e_gf cal rfl
theorem u_R_change_313 : ex cal k_R_change 313 (x0 :: x1 :: x2 :: x3 :: x4 :: x5 :: x6 :: x7 :: aI v :: ls) (st) h = ex cal k_R_change 315 (x0 :: x1 :: x2 :: x3 :: x4 :: x5 :: x6 :: x7 :: aI v :: ls) (aI v :: st) h := ex_st cal (s := s_ild 8 315) rfl rfl
theorem u_R_change_315 : ex cal k_R_change 315 (ls) (aI i :: aQ (some a) :: st) h = gA h a i (ex cal k_R_change 316 (ls) (aI (ai h a (wr i)) :: st) h) := e_ia cal rfl
theorem u_R_change_316 : ex cal k_R_change 316 (ls) (aI i :: st) h = if wr i < 0 then ex cal k_R_change 322 (ls) (st) h else ex cal k_R_change 319 (ls) (st) h := e_iflt cal rfl
theorem u_R_change_319 : ex cal k_R_change 319 (ls) (st) h = ex cal k_R_change 394 (ls) (st) h := ex_st cal (s := s_go 394) rfl rfl
theorem u_R_change_322 : ex cal k_R_change 322 (aQ r :: ls) (st) h = ex cal k_R_change 323 (aQ r :: ls) (aQ r :: st) h := ex_st cal (s := s_ald 0 323) rfl rfl
theorem u_R_change_323 : ex cal k_R_change 323 (ls) (aQ (some a) :: st) h = gO h a 10 (ex cal k_R_change 326 (ls) (gf h a 4 :: st) h) := e_gf cal rfl
theorem u_R_change_326 : ex cal k_R_change 326 (x0 :: x1 :: x2 :: x3 :: x4 :: x5 :: x6 :: x7 :: x8 :: aI v :: ls) (st) h = ex cal k_R_change 328 (x0 :: x1 :: x2 :: x3 :: x4 :: x5 :: x6 :: x7 :: x8 :: aI v :: ls) (aI v :: st) h := ex_st cal (s := s_ild 9 328) rfl rfl
theorem u_R_change_328 : ex cal k_R_change 328 (ls) (st) h = ex cal k_R_change 329 (ls) (aI 1 :: st) h := e_push cal rfl
theorem u_R_change_329 : ex cal k_R_change 329 (ls) (aI j :: aI i :: st) h = ex cal k_R_change 330 (ls) (aI (i + j) :: st) h := e_bin cal rfl
theorem u_R_change_330 : ex cal k_R_change 330 (x0 :: x1 :: x2 :: x3 :: x4 :: x5 :: x6 :: aI v :: ls) (st) h = ex cal k_R_change 332 (x0 :: x1 :: x2 :: x3 :: x4 :: x5 :: x6 :: aI v :: ls) (aI v :: st) h := ex_st cal (s := s_ild 7 332) rfl rfl
theorem u_R_change_332 (h3 : 3 ≤ a) : ex cal k_R_change 332 (ls) (aI v :: aI i :: aQ (some a) :: st) h = gA h a i (ex cal k_R_change 333 (ls) (st) (sa h a (upf (ai h a) (wr i) v))) := e_ias cal rfl h3
theorem u_R_change_333 : ex cal k_R_change 333 (aQ r :: ls) (st) h = ex cal k_R_change 334 (aQ r :: ls) (aQ r :: st) h := ex_st cal (s := s_ald 0 334) rfl rfl
theorem u_R_change_334 : ex cal k_R_change 334 (aQ r :: ls) (st) h = ex cal k_R_change 335 (aQ r :: ls) (aQ r :: st) h := ex_st cal (s := s_ald 0 335) rfl rfl
theorem u_R_change_335 : ex cal k_R_change 335 (ls) (aQ (some a) :: st) h = gO h a 10 (ex cal k_R_change 338 (ls) (gf h a 4 :: st) h) := e_gf cal rfl
theorem u_R_change_338 : ex cal k_R_change 338 (x0 :: x1 :: x2 :: x3 :: x4 :: x5 :: x6 :: x7 :: x8 :: aI v :: ls) (st) h = ex cal k_R_change 340 (x0 :: x1 :: x2 :: x3 :: x4 :: x5 :: x6 :: x7 :: x8 :: aI v :: ls) (aI v :: st) h := ex_st cal (s := s_ild 9 340) rfl rfl
theorem u_R_change_340 : ex cal k_R_change 340 (x0 :: x1 :: x2 :: aI v :: ls) (st) h = ex cal k_R_change 341 (x0 :: x1 :: x2 :: aI v :: ls) (aI v :: st) h := ex_st cal (s := s_ild 3 341) rfl rfl
theorem u_R_change_341 : ex cal k_R_change 341 (aQ r :: ls) (st) h = ex cal k_R_change 342 (aQ r :: ls) (aQ r :: st) h := ex_st cal (s := s_ald 0 342) rfl rfl
theorem u_R_change_342 : ex cal k_R_change 342 (ls) (aQ (some a) :: st) h = gO h a 10 (ex cal k_R_change 345 (ls) (gf h a 14 :: st) h) := e_gf cal rfl
theorem u_R_change_345 : ex cal k_R_change 345 (ls) (st) h = ex cal k_R_change 346 (ls) (aI 4 :: st) h := e_push cal rfl
theorem u_R_change_346 : ex cal k_R_change 346 (ls) (aI i :: aQ (some a) :: st) h = gA h a i (ex cal k_R_change 347 (ls) (aI (ai h a (wr i)) :: st) h) := e_ia cal rfl
theorem u_R_change_347 : ex cal k_R_change 347 (x0 :: aI v :: ls) (st) h = ex cal k_R_change 348 (x0 :: aI v :: ls) (aI v :: st) h := ex_st cal (s := s_ild 1 348) rfl rfl
theorem u_R_change_348 : ex cal k_R_change 348 (ls) (st) h = ex cal k_R_change 349 (ls) (aI 2 :: st) h := e_push cal rfl
theorem u_R_change_349 : ex cal k_R_change 349 (ls) (aI j :: aI i :: st) h = if wr i = wr j then ex cal k_R_change 352 (ls) (st) h else ex cal k_R_change 356 (ls) (st) h := e_icne cal rfl
theorem u_R_change_352 : ex cal k_R_change 352 (ls) (st) h = ex cal k_R_change 353 (ls) (aI 2 :: st) h := e_push cal rfl
theorem u_R_change_353 : ex cal k_R_change 353 (ls) (st) h = ex cal k_R_change 367 (ls) (st) h := ex_st cal (s := s_go 367) rfl rfl
theorem u_R_change_356 : ex cal k_R_change 356 (x0 :: x1 :: x2 :: x3 :: x4 :: x5 :: aI v :: ls) (st) h = ex cal k_R_change 358 (x0 :: x1 :: x2 :: x3 :: x4 :: x5 :: aI v :: ls) (aI v :: st) h := ex_st cal (s := s_ild 6 358) rfl rfl
theorem u_R_change_358 : ex cal k_R_change 358 (ls) (aI i :: st) h = if wr i = 0 then ex cal k_R_change 365 (ls) (st) h else ex cal k_R_change 361 (ls) (st) h := e_ifeq cal rfl
theorem u_R_change_361 : ex cal k_R_change 361 (ls) (st) h = ex cal k_R_change 362 (ls) (aI 5 :: st) h := e_push cal rfl
theorem u_R_change_362 : ex cal k_R_change 362 (ls) (st) h = ex cal k_R_change 367 (ls) (st) h := ex_st cal (s := s_go 367) rfl rfl
theorem u_R_change_365 : ex cal k_R_change 365 (ls) (st) h = ex cal k_R_change 367 (ls) (aI 8 :: st) h := e_push cal rfl
theorem u_R_change_367 (hl : Nat.ble st.length 4 = true) : ex cal k_R_change 367 (ls) (aI z4 :: aI z3 :: aI z2 :: aI z1 :: aQ r0 :: aQ (some a) :: st) h = gO h a 10 (kk cal k_R_change 370 ls st (cal M_R_marks [aQ (some a), aQ r0, aI z1, aI z2, aI z3, aI z4] h)) := e_callV cal (ci := 10) (as := [aI z4, aI z3, aI z2, aI z1, aQ r0]) rfl (by decide) rfl (Nat.le_of_ble_eq_true hl)
theorem u_R_change_370 : ex cal k_R_change 370 (x0 :: x1 :: x2 :: x3 :: x4 :: x5 :: aI v :: ls) (st) h = ex cal k_R_change 372 (x0 :: x1 :: x2 :: x3 :: x4 :: x5 :: aI v :: ls) (aI v :: st) h := ex_st cal (s := s_ild 6 372) rfl rfl
theorem u_R_change_372 : ex cal k_R_change 372 (ls) (aI i :: st) h = if wr i = 0 then ex cal k_R_change 394 (ls) (st) h else ex cal k_R_change 375 (ls) (st) h := e_ifeq cal rfl
theorem u_R_change_375 : ex cal k_R_change 375 (aQ r :: ls) (st) h = ex cal k_R_change 376 (aQ r :: ls) (aQ r :: st) h := ex_st cal (s := s_ald 0 376) rfl rfl
theorem u_R_change_376 : ex cal k_R_change 376 (aQ r :: ls) (st) h = ex cal k_R_change 377 (aQ r :: ls) (aQ r :: st) h := ex_st cal (s := s_ald 0 377) rfl rfl
theorem u_R_change_377 : ex cal k_R_change 377 (ls) (aQ (some a) :: st) h = gO h a 10 (ex cal k_R_change 380 (ls) (gf h a 4 :: st) h) := e_gf cal rfl
theorem u_R_change_380 : ex cal k_R_change 380 (x0 :: x1 :: x2 :: x3 :: x4 :: x5 :: x6 :: x7 :: x8 :: aI v :: ls) (st) h = ex cal k_R_change 382 (x0 :: x1 :: x2 :: x3 :: x4 :: x5 :: x6 :: x7 :: x8 :: aI v :: ls) (aI v :: st) h := ex_st cal (s := s_ild 9 382) rfl rfl
theorem u_R_change_382 : ex cal k_R_change 382 (x0 :: x1 :: x2 :: x3 :: aI v :: ls) (st) h = ex cal k_R_change 384 (x0 :: x1 :: x2 :: x3 :: aI v :: ls) (aI v :: st) h := ex_st cal (s := s_ild 4 384) rfl rfl
theorem u_R_change_384 : ex cal k_R_change 384 (aQ r :: ls) (st) h = ex cal k_R_change 385 (aQ r :: ls) (aQ r :: st) h := ex_st cal (s := s_ald 0 385) rfl rfl
theorem u_R_change_385 : ex cal k_R_change 385 (ls) (aQ (some a) :: st) h = gO h a 10 (ex cal k_R_change 388 (ls) (gf h a 14 :: st) h) := e_gf cal rfl
theorem u_R_change_388 : ex cal k_R_change 388 (ls) (st) h = ex cal k_R_change 389 (ls) (aI 4 :: st) h := e_push cal rfl
theorem u_R_change_389 : ex cal k_R_change 389 (ls) (aI i :: aQ (some a) :: st) h = gA h a i (ex cal k_R_change 390 (ls) (aI (ai h a (wr i)) :: st) h) := e_ia cal rfl
theorem u_R_change_390 : ex cal k_R_change 390 (ls) (st) h = ex cal k_R_change 391 (ls) (aI 5 :: st) h := e_push cal rfl
theorem u_R_change_391 (hl : Nat.ble st.length 4 = true) : ex cal k_R_change 391 (ls) (aI z4 :: aI z3 :: aI z2 :: aI z1 :: aQ r0 :: aQ (some a) :: st) h = gO h a 10 (kk cal k_R_change 394 ls st (cal M_R_marks [aQ (some a), aQ r0, aI z1, aI z2, aI z3, aI z4] h)) := e_callV cal (ci := 10) (as := [aI z4, aI z3, aI z2, aI z1, aQ r0]) rfl (by decide) rfl (Nat.le_of_ble_eq_true hl)
theorem u_R_change_394 (hx : aNl x7 = true) : ex cal k_R_change 394 (x0 :: x1 :: x2 :: x3 :: x4 :: x5 :: x6 :: x7 :: aI v :: ls) (st) h = ex cal k_R_change 397 (x0 :: x1 :: x2 :: x3 :: x4 :: x5 :: x6 :: x7 :: aI (v + 1) :: ls) (st) h := e_inc (ls := x0 :: x1 :: x2 :: x3 :: x4 :: x5 :: x6 :: x7 :: aI v :: ls) (k := 8) rfl rfl hx
theorem u_R_change_397 : ex cal k_R_change 397 (ls) (st) h = ex cal k_R_change 188 (ls) (st) h := ex_st cal (s := s_go 188) rfl rfl
theorem u_R_change_400 : ex cal k_R_change 400 (ls) (st) h = ex cal k_R_change 401 (ls) (aI 0 :: st) h := e_push cal rfl
theorem u_R_change_401 (hx : aNl x7 = true) : ex cal k_R_change 401 (x0 :: x1 :: x2 :: x3 :: x4 :: x5 :: x6 :: x7 :: y :: ls) (aI v :: st) h = ex cal k_R_change 403 (x0 :: x1 :: x2 :: x3 :: x4 :: x5 :: x6 :: x7 :: aI v :: ls) (st) h := e_ist (ls := x0 :: x1 :: x2 :: x3 :: x4 :: x5 :: x6 :: x7 :: y :: ls) (k := 8) rfl hx (by simp only [List.length_cons]; omega)
theorem u_R_change_403 : ex cal k_R_change 403 (x0 :: x1 :: x2 :: x3 :: x4 :: x5 :: x6 :: x7 :: aI v :: ls) (st) h = ex cal k_R_change 405 (x0 :: x1 :: x2 :: x3 :: x4 :: x5 :: x6 :: x7 :: aI v :: ls) (aI v :: st) h := ex_st cal (s := s_ild 8 405) rfl rfl
theorem u_R_change_405 : ex cal k_R_change 405 (ls) (st) h = ex cal k_R_change 408 (ls) (aI 540 :: st) h := e_push cal rfl
theorem u_R_change_408 : ex cal k_R_change 408 (ls) (aI j :: aI i :: st) h = if wr i < wr j then ex cal k_R_change 411 (ls) (st) h else ex cal k_R_change 455 (ls) (st) h := e_icge cal rfl
theorem u_R_change_411 : ex cal k_R_change 411 (aQ r :: ls) (st) h = ex cal k_R_change 412 (aQ r :: ls) (aQ r :: st) h := ex_st cal (s := s_ald 0 412) rfl rfl
theorem u_R_change_412 : ex cal k_R_change 412 (ls) (aQ (some a) :: st) h = gO h a 10 (ex cal k_R_change 415 (ls) (gf h a 0 :: st) h) := e_gf cal rfl
theorem u_R_change_415 : ex cal k_R_change 415 (ls) (st) h = ex cal k_R_change 418 (ls) (aI 540 :: st) h := e_push cal rfl
theorem u_R_change_418 : ex cal k_R_change 418 (x0 :: x1 :: aI v :: ls) (st) h = ex cal k_R_change 419 (x0 :: x1 :: aI v :: ls) (aI v :: st) h := ex_st cal (s := s_ild 2 419) rfl rfl
theorem u_R_change_419 : ex cal k_R_change 419 (ls) (aI j :: aI i :: st) h = ex cal k_R_change 420 (ls) (aI (i * j) :: st) h := e_bin cal rfl
theorem u_R_change_420 : ex cal k_R_change 420 (x0 :: x1 :: x2 :: x3 :: x4 :: x5 :: x6 :: x7 :: aI v :: ls) (st) h = ex cal k_R_change 422 (x0 :: x1 :: x2 :: x3 :: x4 :: x5 :: x6 :: x7 :: aI v :: ls) (aI v :: st) h := ex_st cal (s := s_ild 8 422) rfl rfl
theorem u_R_change_422 : ex cal k_R_change 422 (ls) (aI j :: aI i :: st) h = ex cal k_R_change 423 (ls) (aI (i + j) :: st) h := e_bin cal rfl
theorem u_R_change_423 : ex cal k_R_change 423 (x0 :: x1 :: x2 :: x3 :: x4 :: x5 :: x6 :: x7 :: aI v :: ls) (st) h = ex cal k_R_change 425 (x0 :: x1 :: x2 :: x3 :: x4 :: x5 :: x6 :: x7 :: aI v :: ls) (aI v :: st) h := ex_st cal (s := s_ild 8 425) rfl rfl
theorem u_R_change_425 : ex cal k_R_change 425 (ls) (st) h = ex cal k_R_change 427 (ls) (aI 27 :: st) h := e_push cal rfl
theorem u_R_change_427 : ex cal k_R_change 427 (aQ r :: ls) (st) h = ex cal k_R_change 428 (aQ r :: ls) (aQ r :: st) h := ex_st cal (s := s_ald 0 428) rfl rfl
theorem u_R_change_428 : ex cal k_R_change 428 (ls) (aQ (some a) :: st) h = gO h a 10 (ex cal k_R_change 431 (ls) (gf h a 14 :: st) h) := e_gf cal rfl
theorem u_R_change_431 : ex cal k_R_change 431 (ls) (st) h = ex cal k_R_change 432 (ls) (aI 2 :: st) h := e_push cal rfl
theorem u_R_change_432 : ex cal k_R_change 432 (ls) (aI i :: aQ (some a) :: st) h = gA h a i (ex cal k_R_change 433 (ls) (aI (ai h a (wr i)) :: st) h) := e_ia cal rfl
theorem u_R_change_433 : ex cal k_R_change 433 (ls) (aI j :: aI i :: st) h = ex cal k_R_change 434 (ls) (aI (i * j) :: st) h := e_bin cal rfl
theorem u_R_change_434 : ex cal k_R_change 434 (ls) (aI j :: aI i :: st) h = if wr i < wr j then ex cal k_R_change 437 (ls) (st) h else ex cal k_R_change 447 (ls) (st) h := e_icge cal rfl
theorem u_R_change_437 : ex cal k_R_change 437 (aQ r :: ls) (st) h = ex cal k_R_change 438 (aQ r :: ls) (aQ r :: st) h := ex_st cal (s := s_ald 0 438) rfl rfl
theorem u_R_change_438 : ex cal k_R_change 438 (ls) (aQ (some a) :: st) h = gO h a 10 (ex cal k_R_change 441 (ls) (gf h a 4 :: st) h) := e_gf cal rfl
theorem u_R_change_441 : ex cal k_R_change 441 (x0 :: x1 :: x2 :: x3 :: x4 :: x5 :: x6 :: x7 :: aI v :: ls) (st) h = ex cal k_R_change 443 (x0 :: x1 :: x2 :: x3 :: x4 :: x5 :: x6 :: x7 :: aI v :: ls) (aI v :: st) h := ex_st cal (s := s_ild 8 443) rfl rfl
theorem u_R_change_443 : ex cal k_R_change 443 (ls) (aI i :: aQ (some a) :: st) h = gA h a i (ex cal k_R_change 444 (ls) (aI (ai h a (wr i)) :: st) h) := e_ia cal rfl
theorem u_R_change_444 : ex cal k_R_change 444 (ls) (st) h = ex cal k_R_change 448 (ls) (st) h := ex_st cal (s := s_go 448) rfl rfl
theorem u_R_change_447 : ex cal k_R_change 447 (ls) (st) h = ex cal k_R_change 448 (ls) (aI 0 :: st) h := e_push cal rfl
theorem u_R_change_448 (h3 : 3 ≤ a) : ex cal k_R_change 448 (ls) (aI v :: aI i :: aQ (some a) :: st) h = gA h a i (ex cal k_R_change 449 (ls) (st) (sa h a (upf (ai h a) (wr i) v))) := e_ias cal rfl h3
theorem u_R_change_449 (hx : aNl x7 = true) : ex cal k_R_change 449 (x0 :: x1 :: x2 :: x3 :: x4 :: x5 :: x6 :: x7 :: aI v :: ls) (st) h = ex cal k_R_change 452 (x0 :: x1 :: x2 :: x3 :: x4 :: x5 :: x6 :: x7 :: aI (v + 1) :: ls) (st) h := e_inc (ls := x0 :: x1 :: x2 :: x3 :: x4 :: x5 :: x6 :: x7 :: aI v :: ls) (k := 8) rfl rfl hx
theorem u_R_change_452 : ex cal k_R_change 452 (ls) (st) h = ex cal k_R_change 403 (ls) (st) h := ex_st cal (s := s_go 403) rfl rfl
theorem u_R_change_455 : ex cal k_R_change 455 (aQ r :: ls) (st) h = ex cal k_R_change 456 (aQ r :: ls) (aQ r :: st) h := ex_st cal (s := s_ald 0 456) rfl rfl
theorem u_R_change_456 : ex cal k_R_change 456 (ls) (aQ (some a) :: st) h = gO h a 10 (ex cal k_R_change 459 (ls) (gf h a 1 :: st) h) := e_gf cal rfl
theorem u_R_change_459 : ex cal k_R_change 459 (x0 :: x1 :: aI v :: ls) (st) h = ex cal k_R_change 460 (x0 :: x1 :: aI v :: ls) (aI v :: st) h := ex_st cal (s := s_ild 2 460) rfl rfl
theorem u_R_change_460 : ex cal k_R_change 460 (aQ r :: ls) (st) h = ex cal k_R_change 461 (aQ r :: ls) (aQ r :: st) h := ex_st cal (s := s_ald 0 461) rfl rfl
theorem u_R_change_461 : ex cal k_R_change 461 (ls) (aQ (some a) :: st) h = gO h a 10 (ex cal k_R_change 464 (ls) (gf h a 14 :: st) h) := e_gf cal rfl
theorem u_R_change_464 : ex cal k_R_change 464 (ls) (st) h = ex cal k_R_change 465 (ls) (aI 2 :: st) h := e_push cal rfl
theorem u_R_change_465 : ex cal k_R_change 465 (ls) (aI i :: aQ (some a) :: st) h = gA h a i (ex cal k_R_change 466 (ls) (aI (ai h a (wr i)) :: st) h) := e_ia cal rfl
theorem u_R_change_466 (h3 : 3 ≤ a) : ex cal k_R_change 466 (ls) (aI v :: aI i :: aQ (some a) :: st) h = gA h a i (ex cal k_R_change 467 (ls) (st) (sa h a (upf (ai h a) (wr i) v))) := e_ias cal rfl h3
theorem u_R_change_467 : ex cal k_R_change 467 (aQ r :: ls) (st) h = ex cal k_R_change 468 (aQ r :: ls) (aQ r :: st) h := ex_st cal (s := s_ald 0 468) rfl rfl
theorem u_R_change_468 : ex cal k_R_change 468 (ls) (aQ (some a) :: st) h = gO h a 10 (ex cal k_R_change 471 (ls) (gf h a 14 :: st) h) := e_gf cal rfl
theorem u_R_change_471 : ex cal k_R_change 471 (ls) (st) h = ex cal k_R_change 472 (ls) (aI 2 :: st) h := e_push cal rfl
theorem u_R_change_472 : ex cal k_R_change 472 (ls) (st) h = ex cal k_R_change 473 (ls) (aI 0 :: st) h := e_push cal rfl
theorem u_R_change_473 (h3 : 3 ≤ a) : ex cal k_R_change 473 (ls) (aI v :: aI i :: aQ (some a) :: st) h = gA h a i (ex cal k_R_change 474 (ls) (st) (sa h a (upf (ai h a) (wr i) v))) := e_ias cal rfl h3
theorem u_R_change_474 : ex cal k_R_change 474 (aQ r :: ls) (st) h = ex cal k_R_change 475 (aQ r :: ls) (aQ r :: st) h := ex_st cal (s := s_ald 0 475) rfl rfl
theorem u_R_change_475 : ex cal k_R_change 475 (x0 :: x1 :: x2 :: x3 :: x4 :: x5 :: x6 :: aI v :: ls) (st) h = ex cal k_R_change 477 (x0 :: x1 :: x2 :: x3 :: x4 :: x5 :: x6 :: aI v :: ls) (aI v :: st) h := ex_st cal (s := s_ild 7 477) rfl rfl
theorem u_R_change_477 (hl : Nat.ble st.length 4 = true) : ex cal k_R_change 477 (ls) (aI z0 :: aQ (some a) :: st) h = gO h a 10 (kk cal k_R_change 480 ls st (cal M_R_done [aQ (some a), aI z0] h)) := e_callV cal (ci := 10) (as := [aI z0]) rfl (by decide) rfl (Nat.le_of_ble_eq_true hl)
theorem u_R_change_480 : ex cal k_R_change 480 (ls) ([aI v]) h = some (some (aI v), h) := e_ret1 cal rfl
theorem n_R_change (d : Nat) : ev (d + 1) M_R_change [aQ (some a), aI z0, aI z1, aI z2, aI z3] h = ex (ev d) k_R_change 0 [aQ (some a), aI z0, aI z1, aI z2, aI z3, aU, aU, aU, aU, aU, aU] [] h := rfl
theorem u_R_back_0 : ex cal k_R_back 0 (aQ r :: ls) (st) h = ex cal k_R_back 1 (aQ r :: ls) (aQ r :: st) h := ex_st cal (s := s_ald 0 1) rfl rfl
theorem u_R_back_1 : ex cal k_R_back 1 (x0 :: aI v :: ls) (st) h = ex cal k_R_back 2 (x0 :: aI v :: ls) (aI v :: st) h := ex_st cal (s := s_ild 1 2) rfl rfl
theorem u_R_back_2 (hl : Nat.ble st.length 4 = true) : ex cal k_R_back 2 (ls) (aI z0 :: aQ (some a) :: st) h = gO h a 10 (kk cal k_R_back 5 ls st (cal M_R_isChange [aQ (some a), aI z0] h)) := e_callV cal (ci := 10) (as := [aI z0]) rfl (by decide) rfl (Nat.le_of_ble_eq_true hl)
theorem u_R_back_5 : ex cal k_R_back 5 (ls) (aI i :: st) h = if wr i = 0 then ex cal k_R_back 16 (ls) (st) h else ex cal k_R_back 8 (ls) (st) h := e_ifeq cal rfl
theorem u_R_back_8 : ex cal k_R_back 8 (aQ r :: ls) (st) h = ex cal k_R_back 9 (aQ r :: ls) (aQ r :: st) h := ex_st cal (s := s_ald 0 9) rfl rfl
theorem u_R_back_9 : ex cal k_R_back 9 (x0 :: x1 :: aI v :: ls) (st) h = ex cal k_R_back 10 (x0 :: x1 :: aI v :: ls) (aI v :: st) h := ex_st cal (s := s_ild 2 10) rfl rfl
theorem u_R_back_10 (hl : Nat.ble st.length 4 = true) : ex cal k_R_back 10 (ls) (aI z0 :: aQ (some a) :: st) h = gO h a 10 (kk cal k_R_back 13 ls st (cal M_R_isPerson [aQ (some a), aI z0] h)) := e_callV cal (ci := 10) (as := [aI z0]) rfl (by decide) rfl (Nat.le_of_ble_eq_true hl)
theorem u_R_back_13 : ex cal k_R_back 13 (ls) (aI i :: st) h = if wr i = 0 then ex cal k_R_back 16 (ls) (st) h else ex cal k_R_back 22 (ls) (st) h := e_ifne cal rfl
theorem u_R_back_16 : ex cal k_R_back 16 (aQ r :: ls) (st) h = ex cal k_R_back 17 (aQ r :: ls) (aQ r :: st) h := ex_st cal (s := s_ald 0 17) rfl rfl
theorem u_R_back_17 : ex cal k_R_back 17 (ls) (st) h = ex cal k_R_back 18 (ls) (aI 1 :: st) h := e_push cal rfl
theorem u_R_back_18 (hl : Nat.ble st.length 4 = true) : ex cal k_R_back 18 (ls) (aI z0 :: aQ (some a) :: st) h = gO h a 10 (kk cal k_R_back 21 ls st (cal M_R_refused [aQ (some a), aI z0] h)) := e_callV cal (ci := 10) (as := [aI z0]) rfl (by decide) rfl (Nat.le_of_ble_eq_true hl)
theorem u_R_back_21 : ex cal k_R_back 21 (ls) ([aI v]) h = some (some (aI v), h) := e_ret1 cal rfl
theorem u_R_back_22 : ex cal k_R_back 22 (aQ r :: ls) (st) h = ex cal k_R_back 23 (aQ r :: ls) (aQ r :: st) h := ex_st cal (s := s_ald 0 23) rfl rfl
theorem u_R_back_23 : ex cal k_R_back 23 (ls) (aQ (some a) :: st) h = gO h a 10 (ex cal k_R_back 26 (ls) (gf h a 14 :: st) h) := e_gf cal rfl
theorem u_R_back_26 : ex cal k_R_back 26 (ls) (st) h = ex cal k_R_back 27 (ls) (aI 1 :: st) h := e_push cal rfl
theorem u_R_back_27 : ex cal k_R_back 27 (ls) (aI i :: aQ (some a) :: st) h = gA h a i (ex cal k_R_back 28 (ls) (aI (ai h a (wr i)) :: st) h) := e_ia cal rfl
theorem u_R_back_28 : ex cal k_R_back 28 (ls) (st) h = ex cal k_R_back 30 (ls) (aI 60 :: st) h := e_push cal rfl
theorem u_R_back_30 : ex cal k_R_back 30 (ls) (aI j :: aI i :: st) h = if wr i = wr j then ex cal k_R_back 33 (ls) (st) h else ex cal k_R_back 39 (ls) (st) h := e_icne cal rfl
theorem u_R_back_33 : ex cal k_R_back 33 (aQ r :: ls) (st) h = ex cal k_R_back 34 (aQ r :: ls) (aQ r :: st) h := ex_st cal (s := s_ald 0 34) rfl rfl
theorem u_R_back_34 : ex cal k_R_back 34 (ls) (st) h = ex cal k_R_back 35 (ls) (aI 2 :: st) h := e_push cal rfl
theorem u_R_back_35 (hl : Nat.ble st.length 4 = true) : ex cal k_R_back 35 (ls) (aI z0 :: aQ (some a) :: st) h = gO h a 10 (kk cal k_R_back 38 ls st (cal M_R_refused [aQ (some a), aI z0] h)) := e_callV cal (ci := 10) (as := [aI z0]) rfl (by decide) rfl (Nat.le_of_ble_eq_true hl)
theorem u_R_back_38 : ex cal k_R_back 38 (ls) ([aI v]) h = some (some (aI v), h) := e_ret1 cal rfl
theorem u_R_back_39 : ex cal k_R_back 39 (aQ r :: ls) (st) h = ex cal k_R_back 40 (aQ r :: ls) (aQ r :: st) h := ex_st cal (s := s_ald 0 40) rfl rfl
theorem u_R_back_40 : ex cal k_R_back 40 (x0 :: x1 :: aI v :: ls) (st) h = ex cal k_R_back 41 (x0 :: x1 :: aI v :: ls) (aI v :: st) h := ex_st cal (s := s_ild 2 41) rfl rfl
theorem u_R_back_41 (hl : Nat.ble st.length 4 = true) : ex cal k_R_back 41 (ls) (aI z0 :: aQ (some a) :: st) h = gO h a 10 (kk cal k_R_back 44 ls st (cal M_R_isHere [aQ (some a), aI z0] h)) := e_callV cal (ci := 10) (as := [aI z0]) rfl (by decide) rfl (Nat.le_of_ble_eq_true hl)
theorem u_R_back_44 : ex cal k_R_back 44 (ls) (aI i :: st) h = if wr i = 0 then ex cal k_R_back 47 (ls) (st) h else ex cal k_R_back 53 (ls) (st) h := e_ifne cal rfl
theorem u_R_back_47 : ex cal k_R_back 47 (aQ r :: ls) (st) h = ex cal k_R_back 48 (aQ r :: ls) (aQ r :: st) h := ex_st cal (s := s_ald 0 48) rfl rfl
theorem u_R_back_48 : ex cal k_R_back 48 (ls) (st) h = ex cal k_R_back 49 (ls) (aI 3 :: st) h := e_push cal rfl
theorem u_R_back_49 (hl : Nat.ble st.length 4 = true) : ex cal k_R_back 49 (ls) (aI z0 :: aQ (some a) :: st) h = gO h a 10 (kk cal k_R_back 52 ls st (cal M_R_refused [aQ (some a), aI z0] h)) := e_callV cal (ci := 10) (as := [aI z0]) rfl (by decide) rfl (Nat.le_of_ble_eq_true hl)
theorem u_R_back_52 : ex cal k_R_back 52 (ls) ([aI v]) h = some (some (aI v), h) := e_ret1 cal rfl
theorem u_R_back_53 : ex cal k_R_back 53 (aQ r :: ls) (st) h = ex cal k_R_back 54 (aQ r :: ls) (aQ r :: st) h := ex_st cal (s := s_ald 0 54) rfl rfl
theorem u_R_back_54 : ex cal k_R_back 54 (ls) (aQ (some a) :: st) h = gO h a 10 (ex cal k_R_back 57 (ls) (gf h a 6 :: st) h) := e_gf cal rfl
theorem u_R_back_57 : ex cal k_R_back 57 (x0 :: aI v :: ls) (st) h = ex cal k_R_back 58 (x0 :: aI v :: ls) (aI v :: st) h := ex_st cal (s := s_ild 1 58) rfl rfl
theorem u_R_back_58 : ex cal k_R_back 58 (ls) (aI i :: aQ (some a) :: st) h = gA h a i (ex cal k_R_back 59 (ls) (aI (ai h a (wr i)) :: st) h) := e_ia cal rfl
theorem u_R_back_59 (hx : aNl x2 = true) : ex cal k_R_back 59 (x0 :: x1 :: x2 :: y :: ls) (aI v :: st) h = ex cal k_R_back 60 (x0 :: x1 :: x2 :: aI v :: ls) (st) h := e_ist (ls := x0 :: x1 :: x2 :: y :: ls) (k := 3) rfl hx (by simp only [List.length_cons]; omega)
theorem u_R_back_60 : ex cal k_R_back 60 (aQ r :: ls) (st) h = ex cal k_R_back 61 (aQ r :: ls) (aQ r :: st) h := ex_st cal (s := s_ald 0 61) rfl rfl
theorem u_R_back_61 : ex cal k_R_back 61 (ls) (st) h = ex cal k_R_back 62 (ls) (aI 4 :: st) h := e_push cal rfl
theorem u_R_back_62 : ex cal k_R_back 62 (x0 :: x1 :: x2 :: aI v :: ls) (st) h = ex cal k_R_back 63 (x0 :: x1 :: x2 :: aI v :: ls) (aI v :: st) h := ex_st cal (s := s_ild 3 63) rfl rfl
theorem u_R_back_63 : ex cal k_R_back 63 (x0 :: x1 :: aI v :: ls) (st) h = ex cal k_R_back 64 (x0 :: x1 :: aI v :: ls) (aI v :: st) h := ex_st cal (s := s_ild 2 64) rfl rfl
theorem u_R_back_64 : ex cal k_R_back 64 (x0 :: aI v :: ls) (st) h = ex cal k_R_back 65 (x0 :: aI v :: ls) (aI v :: st) h := ex_st cal (s := s_ild 1 65) rfl rfl
theorem u_R_back_65 (hl : Nat.ble st.length 4 = true) : ex cal k_R_back 65 (ls) (aI z3 :: aI z2 :: aI z1 :: aI z0 :: aQ (some a) :: st) h = gO h a 10 (kk cal k_R_back 68 ls st (cal M_R_comes [aQ (some a), aI z0, aI z1, aI z2, aI z3] h)) := e_callV cal (ci := 10) (as := [aI z3, aI z2, aI z1, aI z0]) rfl (by decide) rfl (Nat.le_of_ble_eq_true hl)
theorem u_R_back_68 (hx : aNl x3 = true) : ex cal k_R_back 68 (x0 :: x1 :: x2 :: x3 :: y :: ls) (aI v :: st) h = ex cal k_R_back 70 (x0 :: x1 :: x2 :: x3 :: aI v :: ls) (st) h := e_ist (ls := x0 :: x1 :: x2 :: x3 :: y :: ls) (k := 4) rfl hx (by simp only [List.length_cons]; omega)
theorem u_R_back_70 : ex cal k_R_back 70 (ls) (st) h = ex cal k_R_back 71 (ls) (aI 0 :: st) h := e_push cal rfl
theorem u_R_back_71 (hx : aNl x4 = true) : ex cal k_R_back 71 (x0 :: x1 :: x2 :: x3 :: x4 :: y :: ls) (aI v :: st) h = ex cal k_R_back 73 (x0 :: x1 :: x2 :: x3 :: x4 :: aI v :: ls) (st) h := e_ist (ls := x0 :: x1 :: x2 :: x3 :: x4 :: y :: ls) (k := 5) rfl hx (by simp only [List.length_cons]; omega)
theorem u_R_back_73 : ex cal k_R_back 73 (x0 :: x1 :: x2 :: x3 :: x4 :: aI v :: ls) (st) h = ex cal k_R_back 75 (x0 :: x1 :: x2 :: x3 :: x4 :: aI v :: ls) (aI v :: st) h := ex_st cal (s := s_ild 5 75) rfl rfl
theorem u_R_back_75 : ex cal k_R_back 75 (ls) (st) h = ex cal k_R_back 78 (ls) (aI 540 :: st) h := e_push cal rfl
theorem u_R_back_78 : ex cal k_R_back 78 (ls) (aI j :: aI i :: st) h = if wr i < wr j then ex cal k_R_back 81 (ls) (st) h else ex cal k_R_back 113 (ls) (st) h := e_icge cal rfl
theorem u_R_back_81 : ex cal k_R_back 81 (aQ r :: ls) (st) h = ex cal k_R_back 82 (aQ r :: ls) (aQ r :: st) h := ex_st cal (s := s_ald 0 82) rfl rfl
theorem u_R_back_82 : ex cal k_R_back 82 (ls) (aQ (some a) :: st) h = gO h a 10 (ex cal k_R_back 85 (ls) (gf h a 0 :: st) h) := e_gf cal rfl
theorem u_R_back_85 : ex cal k_R_back 85 (ls) (st) h = ex cal k_R_back 88 (ls) (aI 540 :: st) h := e_push cal rfl
theorem u_R_back_88 : ex cal k_R_back 88 (x0 :: x1 :: x2 :: aI v :: ls) (st) h = ex cal k_R_back 89 (x0 :: x1 :: x2 :: aI v :: ls) (aI v :: st) h := ex_st cal (s := s_ild 3 89) rfl rfl
theorem u_R_back_89 : ex cal k_R_back 89 (ls) (aI j :: aI i :: st) h = ex cal k_R_back 90 (ls) (aI (i * j) :: st) h := e_bin cal rfl
theorem u_R_back_90 : ex cal k_R_back 90 (x0 :: x1 :: x2 :: x3 :: x4 :: aI v :: ls) (st) h = ex cal k_R_back 92 (x0 :: x1 :: x2 :: x3 :: x4 :: aI v :: ls) (aI v :: st) h := ex_st cal (s := s_ild 5 92) rfl rfl
theorem u_R_back_92 : ex cal k_R_back 92 (ls) (aI j :: aI i :: st) h = ex cal k_R_back 93 (ls) (aI (i + j) :: st) h := e_bin cal rfl
theorem u_R_back_93 : ex cal k_R_back 93 (aQ r :: ls) (st) h = ex cal k_R_back 94 (aQ r :: ls) (aQ r :: st) h := ex_st cal (s := s_ald 0 94) rfl rfl
theorem u_R_back_94 : ex cal k_R_back 94 (ls) (aQ (some a) :: st) h = gO h a 10 (ex cal k_R_back 97 (ls) (gf h a 2 :: st) h) := e_gf cal rfl
theorem u_R_back_97 : ex cal k_R_back 97 (ls) (st) h = ex cal k_R_back 100 (ls) (aI 540 :: st) h := e_push cal rfl
theorem u_R_back_100 : ex cal k_R_back 100 (x0 :: aI v :: ls) (st) h = ex cal k_R_back 101 (x0 :: aI v :: ls) (aI v :: st) h := ex_st cal (s := s_ild 1 101) rfl rfl
theorem u_R_back_101 : ex cal k_R_back 101 (ls) (aI j :: aI i :: st) h = ex cal k_R_back 102 (ls) (aI (i * j) :: st) h := e_bin cal rfl
theorem u_R_back_102 : ex cal k_R_back 102 (x0 :: x1 :: x2 :: x3 :: x4 :: aI v :: ls) (st) h = ex cal k_R_back 104 (x0 :: x1 :: x2 :: x3 :: x4 :: aI v :: ls) (aI v :: st) h := ex_st cal (s := s_ild 5 104) rfl rfl
theorem u_R_back_104 : ex cal k_R_back 104 (ls) (aI j :: aI i :: st) h = ex cal k_R_back 105 (ls) (aI (i + j) :: st) h := e_bin cal rfl
theorem u_R_back_105 : ex cal k_R_back 105 (ls) (aI i :: aQ (some a) :: st) h = gA h a i (ex cal k_R_back 106 (ls) (aI (ai h a (wr i)) :: st) h) := e_ia cal rfl
theorem u_R_back_106 (h3 : 3 ≤ a) : ex cal k_R_back 106 (ls) (aI v :: aI i :: aQ (some a) :: st) h = gA h a i (ex cal k_R_back 107 (ls) (st) (sa h a (upf (ai h a) (wr i) v))) := e_ias cal rfl h3
theorem u_R_back_107 (hx : aNl x4 = true) : ex cal k_R_back 107 (x0 :: x1 :: x2 :: x3 :: x4 :: aI v :: ls) (st) h = ex cal k_R_back 110 (x0 :: x1 :: x2 :: x3 :: x4 :: aI (v + 1) :: ls) (st) h := e_inc (ls := x0 :: x1 :: x2 :: x3 :: x4 :: aI v :: ls) (k := 5) rfl rfl hx
theorem u_R_back_110 : ex cal k_R_back 110 (ls) (st) h = ex cal k_R_back 73 (ls) (st) h := ex_st cal (s := s_go 73) rfl rfl
theorem u_R_back_113 : ex cal k_R_back 113 (aQ r :: ls) (st) h = ex cal k_R_back 114 (aQ r :: ls) (aQ r :: st) h := ex_st cal (s := s_ald 0 114) rfl rfl
theorem u_R_back_114 : ex cal k_R_back 114 (ls) (aQ (some a) :: st) h = gO h a 10 (ex cal k_R_back 117 (ls) (gf h a 1 :: st) h) := e_gf cal rfl
theorem u_R_back_117 : ex cal k_R_back 117 (x0 :: x1 :: x2 :: aI v :: ls) (st) h = ex cal k_R_back 118 (x0 :: x1 :: x2 :: aI v :: ls) (aI v :: st) h := ex_st cal (s := s_ild 3 118) rfl rfl
theorem u_R_back_118 : ex cal k_R_back 118 (aQ r :: ls) (st) h = ex cal k_R_back 119 (aQ r :: ls) (aQ r :: st) h := ex_st cal (s := s_ald 0 119) rfl rfl
theorem u_R_back_119 : ex cal k_R_back 119 (ls) (aQ (some a) :: st) h = gO h a 10 (ex cal k_R_back 122 (ls) (gf h a 3 :: st) h) := e_gf cal rfl
theorem u_R_back_122 : ex cal k_R_back 122 (x0 :: aI v :: ls) (st) h = ex cal k_R_back 123 (x0 :: aI v :: ls) (aI v :: st) h := ex_st cal (s := s_ild 1 123) rfl rfl
theorem u_R_back_123 : ex cal k_R_back 123 (ls) (aI i :: aQ (some a) :: st) h = gA h a i (ex cal k_R_back 124 (ls) (aI (ai h a (wr i)) :: st) h) := e_ia cal rfl
theorem u_R_back_124 (h3 : 3 ≤ a) : ex cal k_R_back 124 (ls) (aI v :: aI i :: aQ (some a) :: st) h = gA h a i (ex cal k_R_back 125 (ls) (st) (sa h a (upf (ai h a) (wr i) v))) := e_ias cal rfl h3
theorem u_R_back_125 : ex cal k_R_back 125 (aQ r :: ls) (st) h = ex cal k_R_back 126 (aQ r :: ls) (aQ r :: st) h := ex_st cal (s := s_ald 0 126) rfl rfl
theorem u_R_back_126 : ex cal k_R_back 126 (ls) (aQ (some a) :: st) h = gO h a 10 (ex cal k_R_back 129 (ls) (gf h a 10 :: st) h) := e_gf cal rfl
theorem u_R_back_129 : ex cal k_R_back 129 (x0 :: x1 :: x2 :: x3 :: aI v :: ls) (st) h = ex cal k_R_back 131 (x0 :: x1 :: x2 :: x3 :: aI v :: ls) (aI v :: st) h := ex_st cal (s := s_ild 4 131) rfl rfl
theorem u_R_back_131 : ex cal k_R_back 131 (aQ r :: ls) (st) h = ex cal k_R_back 132 (aQ r :: ls) (aQ r :: st) h := ex_st cal (s := s_ald 0 132) rfl rfl
theorem u_R_back_132 : ex cal k_R_back 132 (ls) (aQ (some a) :: st) h = gO h a 10 (ex cal k_R_back 135 (ls) (gf h a 1 :: st) h) := e_gf cal rfl
theorem u_R_back_135 : ex cal k_R_back 135 (x0 :: x1 :: x2 :: aI v :: ls) (st) h = ex cal k_R_back 136 (x0 :: x1 :: x2 :: aI v :: ls) (aI v :: st) h := ex_st cal (s := s_ild 3 136) rfl rfl
theorem u_R_back_136 : ex cal k_R_back 136 (ls) (aI i :: aQ (some a) :: st) h = gA h a i (ex cal k_R_back 137 (ls) (aI (ai h a (wr i)) :: st) h) := e_ia cal rfl
theorem u_R_back_137 (h3 : 3 ≤ a) : ex cal k_R_back 137 (ls) (aI v :: aI i :: aQ (some a) :: st) h = gA h a i (ex cal k_R_back 138 (ls) (st) (sa h a (upf (ai h a) (wr i) v))) := e_ias cal rfl h3
theorem u_R_back_138 : ex cal k_R_back 138 (aQ r :: ls) (st) h = ex cal k_R_back 139 (aQ r :: ls) (aQ r :: st) h := ex_st cal (s := s_ald 0 139) rfl rfl
theorem u_R_back_139 : ex cal k_R_back 139 (x0 :: x1 :: x2 :: x3 :: aI v :: ls) (st) h = ex cal k_R_back 141 (x0 :: x1 :: x2 :: x3 :: aI v :: ls) (aI v :: st) h := ex_st cal (s := s_ild 4 141) rfl rfl
theorem u_R_back_141 (hl : Nat.ble st.length 4 = true) : ex cal k_R_back 141 (ls) (aI z0 :: aQ (some a) :: st) h = gO h a 10 (kk cal k_R_back 144 ls st (cal M_R_done [aQ (some a), aI z0] h)) := e_callV cal (ci := 10) (as := [aI z0]) rfl (by decide) rfl (Nat.le_of_ble_eq_true hl)
theorem u_R_back_144 : ex cal k_R_back 144 (ls) ([aI v]) h = some (some (aI v), h) := e_ret1 cal rfl
theorem n_R_back (d : Nat) : ev (d + 1) M_R_back [aQ (some a), aI z0, aI z1] h = ex (ev d) k_R_back 0 [aQ (some a), aI z0, aI z1, aU, aU, aU] [] h := rfl
theorem u_R_read_0 : ex cal k_R_read 0 (aQ r :: ls) (st) h = ex cal k_R_read 1 (aQ r :: ls) (aQ r :: st) h := ex_st cal (s := s_ald 0 1) rfl rfl
theorem u_R_read_1 : ex cal k_R_read 1 (x0 :: aI v :: ls) (st) h = ex cal k_R_read 2 (x0 :: aI v :: ls) (aI v :: st) h := ex_st cal (s := s_ild 1 2) rfl rfl
theorem u_R_read_2 (hl : Nat.ble st.length 4 = true) : ex cal k_R_read 2 (ls) (aI z0 :: aQ (some a) :: st) h = gO h a 10 (kk cal k_R_read 5 ls st (cal M_R_isPerson [aQ (some a), aI z0] h)) := e_callV cal (ci := 10) (as := [aI z0]) rfl (by decide) rfl (Nat.le_of_ble_eq_true hl)
theorem u_R_read_5 : ex cal k_R_read 5 (ls) (aI i :: st) h = if wr i = 0 then ex cal k_R_read 33 (ls) (st) h else ex cal k_R_read 8 (ls) (st) h := e_ifeq cal rfl
theorem u_R_read_8 : ex cal k_R_read 8 (aQ r :: ls) (st) h = ex cal k_R_read 9 (aQ r :: ls) (aQ r :: st) h := ex_st cal (s := s_ald 0 9) rfl rfl
theorem u_R_read_9 : ex cal k_R_read 9 (x0 :: x1 :: aI v :: ls) (st) h = ex cal k_R_read 10 (x0 :: x1 :: aI v :: ls) (aI v :: st) h := ex_st cal (s := s_ild 2 10) rfl rfl
theorem u_R_read_10 : ex cal k_R_read 10 (x0 :: x1 :: x2 :: aI v :: ls) (st) h = ex cal k_R_read 11 (x0 :: x1 :: x2 :: aI v :: ls) (aI v :: st) h := ex_st cal (s := s_ild 3 11) rfl rfl
theorem u_R_read_11 (hl : Nat.ble st.length 4 = true) : ex cal k_R_read 11 (ls) (aI z1 :: aI z0 :: aQ (some a) :: st) h = gO h a 10 (kk cal k_R_read 14 ls st (cal M_R_isLine [aQ (some a), aI z0, aI z1] h)) := e_callV cal (ci := 10) (as := [aI z1, aI z0]) rfl (by decide) rfl (Nat.le_of_ble_eq_true hl)
theorem u_R_read_14 : ex cal k_R_read 14 (ls) (aI i :: st) h = if wr i = 0 then ex cal k_R_read 33 (ls) (st) h else ex cal k_R_read 17 (ls) (st) h := e_ifeq cal rfl
theorem u_R_read_17 : ex cal k_R_read 17 (aQ r :: ls) (st) h = ex cal k_R_read 18 (aQ r :: ls) (aQ r :: st) h := ex_st cal (s := s_ald 0 18) rfl rfl
theorem u_R_read_18 : ex cal k_R_read 18 (x0 :: x1 :: aI v :: ls) (st) h = ex cal k_R_read 19 (x0 :: x1 :: aI v :: ls) (aI v :: st) h := ex_st cal (s := s_ild 2 19) rfl rfl
theorem u_R_read_19 : ex cal k_R_read 19 (x0 :: x1 :: x2 :: x3 :: aI v :: ls) (st) h = ex cal k_R_read 21 (x0 :: x1 :: x2 :: x3 :: aI v :: ls) (aI v :: st) h := ex_st cal (s := s_ild 4 21) rfl rfl
theorem u_R_read_21 (hl : Nat.ble st.length 4 = true) : ex cal k_R_read 21 (ls) (aI z1 :: aI z0 :: aQ (some a) :: st) h = gO h a 10 (kk cal k_R_read 24 ls st (cal M_R_isLine [aQ (some a), aI z0, aI z1] h)) := e_callV cal (ci := 10) (as := [aI z1, aI z0]) rfl (by decide) rfl (Nat.le_of_ble_eq_true hl)
theorem u_R_read_24 : ex cal k_R_read 24 (ls) (aI i :: st) h = if wr i = 0 then ex cal k_R_read 33 (ls) (st) h else ex cal k_R_read 27 (ls) (st) h := e_ifeq cal rfl
theorem u_R_read_27 : ex cal k_R_read 27 (x0 :: x1 :: x2 :: aI v :: ls) (st) h = ex cal k_R_read 28 (x0 :: x1 :: x2 :: aI v :: ls) (aI v :: st) h := ex_st cal (s := s_ild 3 28) rfl rfl
theorem u_R_read_28 : ex cal k_R_read 28 (x0 :: x1 :: x2 :: x3 :: aI v :: ls) (st) h = ex cal k_R_read 30 (x0 :: x1 :: x2 :: x3 :: aI v :: ls) (aI v :: st) h := ex_st cal (s := s_ild 4 30) rfl rfl
theorem u_R_read_30 : ex cal k_R_read 30 (ls) (aI j :: aI i :: st) h = if wr j < wr i then ex cal k_R_read 33 (ls) (st) h else ex cal k_R_read 39 (ls) (st) h := e_icle cal rfl
theorem u_R_read_33 : ex cal k_R_read 33 (aQ r :: ls) (st) h = ex cal k_R_read 34 (aQ r :: ls) (aQ r :: st) h := ex_st cal (s := s_ald 0 34) rfl rfl
theorem u_R_read_34 : ex cal k_R_read 34 (ls) (st) h = ex cal k_R_read 35 (ls) (aI 1 :: st) h := e_push cal rfl
theorem u_R_read_35 (hl : Nat.ble st.length 4 = true) : ex cal k_R_read 35 (ls) (aI z0 :: aQ (some a) :: st) h = gO h a 10 (kk cal k_R_read 38 ls st (cal M_R_refused [aQ (some a), aI z0] h)) := e_callV cal (ci := 10) (as := [aI z0]) rfl (by decide) rfl (Nat.le_of_ble_eq_true hl)
theorem u_R_read_38 : ex cal k_R_read 38 (ls) ([aI v]) h = some (some (aI v), h) := e_ret1 cal rfl
theorem u_R_read_39 : ex cal k_R_read 39 (aQ r :: ls) (st) h = ex cal k_R_read 40 (aQ r :: ls) (aQ r :: st) h := ex_st cal (s := s_ald 0 40) rfl rfl
theorem u_R_read_40 : ex cal k_R_read 40 (x0 :: aI v :: ls) (st) h = ex cal k_R_read 41 (x0 :: aI v :: ls) (aI v :: st) h := ex_st cal (s := s_ild 1 41) rfl rfl
theorem u_R_read_41 (hl : Nat.ble st.length 4 = true) : ex cal k_R_read 41 (ls) (aI z0 :: aQ (some a) :: st) h = gO h a 10 (kk cal k_R_read 44 ls st (cal M_R_isHere [aQ (some a), aI z0] h)) := e_callV cal (ci := 10) (as := [aI z0]) rfl (by decide) rfl (Nat.le_of_ble_eq_true hl)
theorem u_R_read_44 : ex cal k_R_read 44 (ls) (aI i :: st) h = if wr i = 0 then ex cal k_R_read 47 (ls) (st) h else ex cal k_R_read 53 (ls) (st) h := e_ifne cal rfl
theorem u_R_read_47 : ex cal k_R_read 47 (aQ r :: ls) (st) h = ex cal k_R_read 48 (aQ r :: ls) (aQ r :: st) h := ex_st cal (s := s_ald 0 48) rfl rfl
theorem u_R_read_48 : ex cal k_R_read 48 (ls) (st) h = ex cal k_R_read 49 (ls) (aI 3 :: st) h := e_push cal rfl
theorem u_R_read_49 (hl : Nat.ble st.length 4 = true) : ex cal k_R_read 49 (ls) (aI z0 :: aQ (some a) :: st) h = gO h a 10 (kk cal k_R_read 52 ls st (cal M_R_refused [aQ (some a), aI z0] h)) := e_callV cal (ci := 10) (as := [aI z0]) rfl (by decide) rfl (Nat.le_of_ble_eq_true hl)
theorem u_R_read_52 : ex cal k_R_read 52 (ls) ([aI v]) h = some (some (aI v), h) := e_ret1 cal rfl
theorem u_R_read_53 : ex cal k_R_read 53 (x0 :: x1 :: x2 :: aI v :: ls) (st) h = ex cal k_R_read 54 (x0 :: x1 :: x2 :: aI v :: ls) (aI v :: st) h := ex_st cal (s := s_ild 3 54) rfl rfl
theorem u_R_read_54 (hx : aNl x4 = true) : ex cal k_R_read 54 (x0 :: x1 :: x2 :: x3 :: x4 :: y :: ls) (aI v :: st) h = ex cal k_R_read 56 (x0 :: x1 :: x2 :: x3 :: x4 :: aI v :: ls) (st) h := e_ist (ls := x0 :: x1 :: x2 :: x3 :: x4 :: y :: ls) (k := 5) rfl hx (by simp only [List.length_cons]; omega)
theorem u_R_read_56 : ex cal k_R_read 56 (x0 :: x1 :: x2 :: x3 :: x4 :: aI v :: ls) (st) h = ex cal k_R_read 58 (x0 :: x1 :: x2 :: x3 :: x4 :: aI v :: ls) (aI v :: st) h := ex_st cal (s := s_ild 5 58) rfl rfl
theorem u_R_read_58 : ex cal k_R_read 58 (x0 :: x1 :: x2 :: x3 :: aI v :: ls) (st) h = ex cal k_R_read 60 (x0 :: x1 :: x2 :: x3 :: aI v :: ls) (aI v :: st) h := ex_st cal (s := s_ild 4 60) rfl rfl
theorem u_R_read_60 : ex cal k_R_read 60 (ls) (aI j :: aI i :: st) h = if wr j < wr i then ex cal k_R_read 96 (ls) (st) h else ex cal k_R_read 63 (ls) (st) h := e_icgt cal rfl
theorem u_R_read_63 : ex cal k_R_read 63 (aQ r :: ls) (st) h = ex cal k_R_read 64 (aQ r :: ls) (aQ r :: st) h := ex_st cal (s := s_ald 0 64) rfl rfl
theorem u_R_read_64 : ex cal k_R_read 64 (aQ r :: ls) (st) h = ex cal k_R_read 65 (aQ r :: ls) (aQ r :: st) h := ex_st cal (s := s_ald 0 65) rfl rfl
theorem u_R_read_65 : ex cal k_R_read 65 (ls) (aQ (some a) :: st) h = gO h a 10 (ex cal k_R_read 68 (ls) (gf h a 0 :: st) h) := e_gf cal rfl
theorem u_R_read_68 : ex cal k_R_read 68 (ls) (st) h = ex cal k_R_read 71 (ls) (aI 540 :: st) h := e_push cal rfl
theorem u_R_read_71 : ex cal k_R_read 71 (x0 :: x1 :: aI v :: ls) (st) h = ex cal k_R_read 72 (x0 :: x1 :: aI v :: ls) (aI v :: st) h := ex_st cal (s := s_ild 2 72) rfl rfl
theorem u_R_read_72 : ex cal k_R_read 72 (ls) (aI j :: aI i :: st) h = ex cal k_R_read 73 (ls) (aI (i * j) :: st) h := e_bin cal rfl
theorem u_R_read_73 : ex cal k_R_read 73 (ls) (st) h = ex cal k_R_read 75 (ls) (aI 27 :: st) h := e_push cal rfl
theorem u_R_read_75 : ex cal k_R_read 75 (x0 :: x1 :: x2 :: x3 :: x4 :: aI v :: ls) (st) h = ex cal k_R_read 77 (x0 :: x1 :: x2 :: x3 :: x4 :: aI v :: ls) (aI v :: st) h := ex_st cal (s := s_ild 5 77) rfl rfl
theorem u_R_read_77 : ex cal k_R_read 77 (ls) (aI j :: aI i :: st) h = ex cal k_R_read 78 (ls) (aI (i * j) :: st) h := e_bin cal rfl
theorem u_R_read_78 : ex cal k_R_read 78 (ls) (aI j :: aI i :: st) h = ex cal k_R_read 79 (ls) (aI (i + j) :: st) h := e_bin cal rfl
theorem u_R_read_79 : ex cal k_R_read 79 (x0 :: aI v :: ls) (st) h = ex cal k_R_read 80 (x0 :: aI v :: ls) (aI v :: st) h := ex_st cal (s := s_ild 1 80) rfl rfl
theorem u_R_read_80 : ex cal k_R_read 80 (aQ r :: ls) (st) h = ex cal k_R_read 81 (aQ r :: ls) (aQ r :: st) h := ex_st cal (s := s_ald 0 81) rfl rfl
theorem u_R_read_81 : ex cal k_R_read 81 (ls) (aQ (some a) :: st) h = gO h a 10 (ex cal k_R_read 84 (ls) (gf h a 14 :: st) h) := e_gf cal rfl
theorem u_R_read_84 : ex cal k_R_read 84 (ls) (st) h = ex cal k_R_read 85 (ls) (aI 4 :: st) h := e_push cal rfl
theorem u_R_read_85 : ex cal k_R_read 85 (ls) (aI i :: aQ (some a) :: st) h = gA h a i (ex cal k_R_read 86 (ls) (aI (ai h a (wr i)) :: st) h) := e_ia cal rfl
theorem u_R_read_86 : ex cal k_R_read 86 (ls) (st) h = ex cal k_R_read 87 (ls) (aI 3 :: st) h := e_push cal rfl
theorem u_R_read_87 (hl : Nat.ble st.length 4 = true) : ex cal k_R_read 87 (ls) (aI z4 :: aI z3 :: aI z2 :: aI z1 :: aQ r0 :: aQ (some a) :: st) h = gO h a 10 (kk cal k_R_read 90 ls st (cal M_R_marks [aQ (some a), aQ r0, aI z1, aI z2, aI z3, aI z4] h)) := e_callV cal (ci := 10) (as := [aI z4, aI z3, aI z2, aI z1, aQ r0]) rfl (by decide) rfl (Nat.le_of_ble_eq_true hl)
theorem u_R_read_90 (hx : aNl x4 = true) : ex cal k_R_read 90 (x0 :: x1 :: x2 :: x3 :: x4 :: aI v :: ls) (st) h = ex cal k_R_read 93 (x0 :: x1 :: x2 :: x3 :: x4 :: aI (v + 1) :: ls) (st) h := e_inc (ls := x0 :: x1 :: x2 :: x3 :: x4 :: aI v :: ls) (k := 5) rfl rfl hx
theorem u_R_read_93 : ex cal k_R_read 93 (ls) (st) h = ex cal k_R_read 56 (ls) (st) h := ex_st cal (s := s_go 56) rfl rfl
theorem u_R_read_96 : ex cal k_R_read 96 (aQ r :: ls) (st) h = ex cal k_R_read 97 (aQ r :: ls) (aQ r :: st) h := ex_st cal (s := s_ald 0 97) rfl rfl
theorem u_R_read_97 : ex cal k_R_read 97 (x0 :: x1 :: x2 :: x3 :: aI v :: ls) (st) h = ex cal k_R_read 99 (x0 :: x1 :: x2 :: x3 :: aI v :: ls) (aI v :: st) h := ex_st cal (s := s_ild 4 99) rfl rfl
theorem u_R_read_99 : ex cal k_R_read 99 (x0 :: x1 :: x2 :: aI v :: ls) (st) h = ex cal k_R_read 100 (x0 :: x1 :: x2 :: aI v :: ls) (aI v :: st) h := ex_st cal (s := s_ild 3 100) rfl rfl
theorem u_R_read_100 : ex cal k_R_read 100 (ls) (aI j :: aI i :: st) h = ex cal k_R_read 101 (ls) (aI (i - j) :: st) h := e_bin cal rfl
theorem u_R_read_101 : ex cal k_R_read 101 (ls) (st) h = ex cal k_R_read 102 (ls) (aI 1 :: st) h := e_push cal rfl
theorem u_R_read_102 : ex cal k_R_read 102 (ls) (aI j :: aI i :: st) h = ex cal k_R_read 103 (ls) (aI (i + j) :: st) h := e_bin cal rfl
theorem u_R_read_103 (hl : Nat.ble st.length 4 = true) : ex cal k_R_read 103 (ls) (aI z0 :: aQ (some a) :: st) h = gO h a 10 (kk cal k_R_read 106 ls st (cal M_R_done [aQ (some a), aI z0] h)) := e_callV cal (ci := 10) (as := [aI z0]) rfl (by decide) rfl (Nat.le_of_ble_eq_true hl)
theorem u_R_read_106 : ex cal k_R_read 106 (ls) ([aI v]) h = some (some (aI v), h) := e_ret1 cal rfl
theorem n_R_read (d : Nat) : ev (d + 1) M_R_read [aQ (some a), aI z0, aI z1, aI z2, aI z3] h = ex (ev d) k_R_read 0 [aQ (some a), aI z0, aI z1, aI z2, aI z3, aU] [] h := rfl
theorem u_R_keeps_0 : ex cal k_R_keeps 0 (ls) (st) h = ex cal k_R_keeps 1 (ls) (aI 0 :: st) h := e_push cal rfl
theorem u_R_keeps_1 (hx : aNl x2 = true) : ex cal k_R_keeps 1 (x0 :: x1 :: x2 :: y :: ls) (aI v :: st) h = ex cal k_R_keeps 2 (x0 :: x1 :: x2 :: aI v :: ls) (st) h := e_ist (ls := x0 :: x1 :: x2 :: y :: ls) (k := 3) rfl hx (by simp only [List.length_cons]; omega)
theorem u_R_keeps_2 : ex cal k_R_keeps 2 (x0 :: x1 :: x2 :: aI v :: ls) (st) h = ex cal k_R_keeps 3 (x0 :: x1 :: x2 :: aI v :: ls) (aI v :: st) h := ex_st cal (s := s_ild 3 3) rfl rfl
theorem u_R_keeps_3 : ex cal k_R_keeps 3 (x0 :: aQ r :: ls) (st) h = ex cal k_R_keeps 4 (x0 :: aQ r :: ls) (aQ r :: st) h := ex_st cal (s := s_ald 1 4) rfl rfl
theorem u_R_keeps_4 : ex cal k_R_keeps 4 (ls) (aQ (some a) :: st) h = gB (isAR h a) (ex cal k_R_keeps 5 (ls) (aI (al h a) :: st) h) := e_len cal rfl
theorem u_R_keeps_5 : ex cal k_R_keeps 5 (ls) (aI j :: aI i :: st) h = if wr i < wr j then ex cal k_R_keeps 8 (ls) (st) h else ex cal k_R_keeps 55 (ls) (st) h := e_icge cal rfl
theorem u_R_keeps_8 : ex cal k_R_keeps 8 (x0 :: x1 :: aI v :: ls) (st) h = ex cal k_R_keeps 9 (x0 :: x1 :: aI v :: ls) (aI v :: st) h := ex_st cal (s := s_ild 2 9) rfl rfl
theorem u_R_keeps_9 : ex cal k_R_keeps 9 (ls) (aI i :: st) h = if wr i = 0 then ex cal k_R_keeps 27 (ls) (st) h else ex cal k_R_keeps 12 (ls) (st) h := e_ifeq cal rfl
theorem u_R_keeps_12 : ex cal k_R_keeps 12 (aQ r :: ls) (st) h = ex cal k_R_keeps 13 (aQ r :: ls) (aQ r :: st) h := ex_st cal (s := s_ald 0 13) rfl rfl
theorem u_R_keeps_13 : ex cal k_R_keeps 13 (ls) (aQ (some a) :: st) h = gO h a 10 (ex cal k_R_keeps 16 (ls) (gf h a 15 :: st) h) := e_gf cal rfl
theorem u_R_keeps_16 : ex cal k_R_keeps 16 (aQ r :: ls) (st) h = ex cal k_R_keeps 17 (aQ r :: ls) (aQ r :: st) h := ex_st cal (s := s_ald 0 17) rfl rfl
theorem u_R_keeps_17 : ex cal k_R_keeps 17 (ls) (aQ (some a) :: st) h = gO h a 10 (ex cal k_R_keeps 20 (ls) (gf h a 21 :: st) h) := e_gf cal rfl
theorem u_R_keeps_20 : ex cal k_R_keeps 20 (x0 :: aQ r :: ls) (st) h = ex cal k_R_keeps 21 (x0 :: aQ r :: ls) (aQ r :: st) h := ex_st cal (s := s_ald 1 21) rfl rfl
theorem u_R_keeps_21 : ex cal k_R_keeps 21 (x0 :: x1 :: x2 :: aI v :: ls) (st) h = ex cal k_R_keeps 22 (x0 :: x1 :: x2 :: aI v :: ls) (aI v :: st) h := ex_st cal (s := s_ild 3 22) rfl rfl
theorem u_R_keeps_22 : ex cal k_R_keeps 22 (ls) (aI i :: aQ (some a) :: st) h = gA h a i (ex cal k_R_keeps 23 (ls) (aI (ai h a (wr i)) :: st) h) := e_ia cal rfl
theorem u_R_keeps_23 (h3 : 3 ≤ a) : ex cal k_R_keeps 23 (ls) (aI v :: aI i :: aQ (some a) :: st) h = gA h a i (ex cal k_R_keeps 24 (ls) (st) (sa h a (upf (ai h a) (wr i) v))) := e_ias cal rfl h3
theorem u_R_keeps_24 : ex cal k_R_keeps 24 (ls) (st) h = ex cal k_R_keeps 39 (ls) (st) h := ex_st cal (s := s_go 39) rfl rfl
theorem u_R_keeps_27 : ex cal k_R_keeps 27 (x0 :: aQ r :: ls) (st) h = ex cal k_R_keeps 28 (x0 :: aQ r :: ls) (aQ r :: st) h := ex_st cal (s := s_ald 1 28) rfl rfl
theorem u_R_keeps_28 : ex cal k_R_keeps 28 (x0 :: x1 :: x2 :: aI v :: ls) (st) h = ex cal k_R_keeps 29 (x0 :: x1 :: x2 :: aI v :: ls) (aI v :: st) h := ex_st cal (s := s_ild 3 29) rfl rfl
theorem u_R_keeps_29 : ex cal k_R_keeps 29 (aQ r :: ls) (st) h = ex cal k_R_keeps 30 (aQ r :: ls) (aQ r :: st) h := ex_st cal (s := s_ald 0 30) rfl rfl
theorem u_R_keeps_30 : ex cal k_R_keeps 30 (ls) (aQ (some a) :: st) h = gO h a 10 (ex cal k_R_keeps 33 (ls) (gf h a 15 :: st) h) := e_gf cal rfl
theorem u_R_keeps_33 : ex cal k_R_keeps 33 (aQ r :: ls) (st) h = ex cal k_R_keeps 34 (aQ r :: ls) (aQ r :: st) h := ex_st cal (s := s_ald 0 34) rfl rfl
theorem u_R_keeps_34 : ex cal k_R_keeps 34 (ls) (aQ (some a) :: st) h = gO h a 10 (ex cal k_R_keeps 37 (ls) (gf h a 21 :: st) h) := e_gf cal rfl
theorem u_R_keeps_37 : ex cal k_R_keeps 37 (ls) (aI i :: aQ (some a) :: st) h = gA h a i (ex cal k_R_keeps 38 (ls) (aI (ai h a (wr i)) :: st) h) := e_ia cal rfl
theorem u_R_keeps_38 (h3 : 3 ≤ a) : ex cal k_R_keeps 38 (ls) (aI v :: aI i :: aQ (some a) :: st) h = gA h a i (ex cal k_R_keeps 39 (ls) (st) (sa h a (upf (ai h a) (wr i) v))) := e_ias cal rfl h3
theorem u_R_keeps_39 : ex cal k_R_keeps 39 (aQ r :: ls) (st) h = ex cal k_R_keeps 40 (aQ r :: ls) (aQ r :: st) h := ex_st cal (s := s_ald 0 40) rfl rfl
theorem u_R_keeps_40 (hx : aNl y = true) : ex cal k_R_keeps 40 (ls) (y :: st) h = ex cal k_R_keeps 41 (ls) (y :: y :: st) h := e_dup rfl hx
theorem u_R_keeps_41 : ex cal k_R_keeps 41 (ls) (aQ (some a) :: st) h = gO h a 10 (ex cal k_R_keeps 44 (ls) (gf h a 21 :: st) h) := e_gf cal rfl
theorem u_R_keeps_44 : ex cal k_R_keeps 44 (ls) (st) h = ex cal k_R_keeps 45 (ls) (aI 1 :: st) h := e_push cal rfl
theorem u_R_keeps_45 : ex cal k_R_keeps 45 (ls) (aI j :: aI i :: st) h = ex cal k_R_keeps 46 (ls) (aI (i + j) :: st) h := e_bin cal rfl
theorem u_R_keeps_46 : ex cal k_R_keeps 46 (ls) (aI v :: aQ (some a) :: st) h = gO h a 10 (ex cal k_R_keeps 49 (ls) (st) (pf h a 21 (aI v))) := e_pf1 rfl rfl
theorem u_R_keeps_49 (hx : aNl x2 = true) : ex cal k_R_keeps 49 (x0 :: x1 :: x2 :: aI v :: ls) (st) h = ex cal k_R_keeps 52 (x0 :: x1 :: x2 :: aI (v + 1) :: ls) (st) h := e_inc (ls := x0 :: x1 :: x2 :: aI v :: ls) (k := 3) rfl rfl hx
theorem u_R_keeps_52 : ex cal k_R_keeps 52 (ls) (st) h = ex cal k_R_keeps 2 (ls) (st) h := ex_st cal (s := s_go 2) rfl rfl
theorem u_R_keeps_55 : ex cal k_R_keeps 55 (ls) ([]) h = some (none, h) := e_ret0 cal rfl
theorem n_R_keeps (d : Nat) : ev (d + 1) M_R_keeps [aQ (some a), aQ r0, aI z1] h = ex (ev d) k_R_keeps 0 [aQ (some a), aQ r0, aI z1, aU] [] h := rfl
theorem u_R_keepsAll_0 : ex cal k_R_keepsAll 0 (aQ r :: ls) (st) h = ex cal k_R_keepsAll 1 (aQ r :: ls) (aQ r :: st) h := ex_st cal (s := s_ald 0 1) rfl rfl
theorem u_R_keepsAll_1 : ex cal k_R_keepsAll 1 (ls) (st) h = ex cal k_R_keepsAll 2 (ls) (aI 0 :: st) h := e_push cal rfl
theorem u_R_keepsAll_2 : ex cal k_R_keepsAll 2 (ls) (aI v :: aQ (some a) :: st) h = gO h a 10 (ex cal k_R_keepsAll 5 (ls) (st) (pf h a 21 (aI v))) := e_pf1 rfl rfl
theorem u_R_keepsAll_5 : ex cal k_R_keepsAll 5 (aQ r :: ls) (st) h = ex cal k_R_keepsAll 6 (aQ r :: ls) (aQ r :: st) h := ex_st cal (s := s_ald 0 6) rfl rfl
theorem u_R_keepsAll_6 : ex cal k_R_keepsAll 6 (aQ r :: ls) (st) h = ex cal k_R_keepsAll 7 (aQ r :: ls) (aQ r :: st) h := ex_st cal (s := s_ald 0 7) rfl rfl
theorem u_R_keepsAll_7 : ex cal k_R_keepsAll 7 (ls) (aQ (some a) :: st) h = gO h a 10 (ex cal k_R_keepsAll 10 (ls) (gf h a 0 :: st) h) := e_gf cal rfl
theorem u_R_keepsAll_10 : ex cal k_R_keepsAll 10 (x0 :: aI v :: ls) (st) h = ex cal k_R_keepsAll 11 (x0 :: aI v :: ls) (aI v :: st) h := ex_st cal (s := s_ild 1 11) rfl rfl
theorem u_R_keepsAll_11 (hl : Nat.ble st.length 4 = true) : ex cal k_R_keepsAll 11 (ls) (aI z1 :: aQ r0 :: aQ (some a) :: st) h = gO h a 10 (kk cal k_R_keepsAll 14 ls st (cal M_R_keeps [aQ (some a), aQ r0, aI z1] h)) := e_callV cal (ci := 10) (as := [aI z1, aQ r0]) rfl (by decide) rfl (Nat.le_of_ble_eq_true hl)
theorem u_R_keepsAll_14 : ex cal k_R_keepsAll 14 (aQ r :: ls) (st) h = ex cal k_R_keepsAll 15 (aQ r :: ls) (aQ r :: st) h := ex_st cal (s := s_ald 0 15) rfl rfl
theorem u_R_keepsAll_15 : ex cal k_R_keepsAll 15 (aQ r :: ls) (st) h = ex cal k_R_keepsAll 16 (aQ r :: ls) (aQ r :: st) h := ex_st cal (s := s_ald 0 16) rfl rfl
theorem u_R_keepsAll_16 : ex cal k_R_keepsAll 16 (ls) (aQ (some a) :: st) h = gO h a 10 (ex cal k_R_keepsAll 19 (ls) (gf h a 1 :: st) h) := e_gf cal rfl
theorem u_R_keepsAll_19 : ex cal k_R_keepsAll 19 (x0 :: aI v :: ls) (st) h = ex cal k_R_keepsAll 20 (x0 :: aI v :: ls) (aI v :: st) h := ex_st cal (s := s_ild 1 20) rfl rfl
theorem u_R_keepsAll_20 (hl : Nat.ble st.length 4 = true) : ex cal k_R_keepsAll 20 (ls) (aI z1 :: aQ r0 :: aQ (some a) :: st) h = gO h a 10 (kk cal k_R_keepsAll 23 ls st (cal M_R_keeps [aQ (some a), aQ r0, aI z1] h)) := e_callV cal (ci := 10) (as := [aI z1, aQ r0]) rfl (by decide) rfl (Nat.le_of_ble_eq_true hl)
theorem u_R_keepsAll_23 : ex cal k_R_keepsAll 23 (aQ r :: ls) (st) h = ex cal k_R_keepsAll 24 (aQ r :: ls) (aQ r :: st) h := ex_st cal (s := s_ald 0 24) rfl rfl
theorem u_R_keepsAll_24 : ex cal k_R_keepsAll 24 (aQ r :: ls) (st) h = ex cal k_R_keepsAll 25 (aQ r :: ls) (aQ r :: st) h := ex_st cal (s := s_ald 0 25) rfl rfl
theorem u_R_keepsAll_25 : ex cal k_R_keepsAll 25 (ls) (aQ (some a) :: st) h = gO h a 10 (ex cal k_R_keepsAll 28 (ls) (gf h a 2 :: st) h) := e_gf cal rfl
theorem u_R_keepsAll_28 : ex cal k_R_keepsAll 28 (x0 :: aI v :: ls) (st) h = ex cal k_R_keepsAll 29 (x0 :: aI v :: ls) (aI v :: st) h := ex_st cal (s := s_ild 1 29) rfl rfl
theorem u_R_keepsAll_29 (hl : Nat.ble st.length 4 = true) : ex cal k_R_keepsAll 29 (ls) (aI z1 :: aQ r0 :: aQ (some a) :: st) h = gO h a 10 (kk cal k_R_keepsAll 32 ls st (cal M_R_keeps [aQ (some a), aQ r0, aI z1] h)) := e_callV cal (ci := 10) (as := [aI z1, aQ r0]) rfl (by decide) rfl (Nat.le_of_ble_eq_true hl)
theorem u_R_keepsAll_32 : ex cal k_R_keepsAll 32 (aQ r :: ls) (st) h = ex cal k_R_keepsAll 33 (aQ r :: ls) (aQ r :: st) h := ex_st cal (s := s_ald 0 33) rfl rfl
theorem u_R_keepsAll_33 : ex cal k_R_keepsAll 33 (aQ r :: ls) (st) h = ex cal k_R_keepsAll 34 (aQ r :: ls) (aQ r :: st) h := ex_st cal (s := s_ald 0 34) rfl rfl
theorem u_R_keepsAll_34 : ex cal k_R_keepsAll 34 (ls) (aQ (some a) :: st) h = gO h a 10 (ex cal k_R_keepsAll 37 (ls) (gf h a 3 :: st) h) := e_gf cal rfl
theorem u_R_keepsAll_37 : ex cal k_R_keepsAll 37 (x0 :: aI v :: ls) (st) h = ex cal k_R_keepsAll 38 (x0 :: aI v :: ls) (aI v :: st) h := ex_st cal (s := s_ild 1 38) rfl rfl
theorem u_R_keepsAll_38 (hl : Nat.ble st.length 4 = true) : ex cal k_R_keepsAll 38 (ls) (aI z1 :: aQ r0 :: aQ (some a) :: st) h = gO h a 10 (kk cal k_R_keepsAll 41 ls st (cal M_R_keeps [aQ (some a), aQ r0, aI z1] h)) := e_callV cal (ci := 10) (as := [aI z1, aQ r0]) rfl (by decide) rfl (Nat.le_of_ble_eq_true hl)
theorem u_R_keepsAll_41 : ex cal k_R_keepsAll 41 (aQ r :: ls) (st) h = ex cal k_R_keepsAll 42 (aQ r :: ls) (aQ r :: st) h := ex_st cal (s := s_ald 0 42) rfl rfl
theorem u_R_keepsAll_42 : ex cal k_R_keepsAll 42 (aQ r :: ls) (st) h = ex cal k_R_keepsAll 43 (aQ r :: ls) (aQ r :: st) h := ex_st cal (s := s_ald 0 43) rfl rfl
theorem u_R_keepsAll_43 : ex cal k_R_keepsAll 43 (ls) (aQ (some a) :: st) h = gO h a 10 (ex cal k_R_keepsAll 46 (ls) (gf h a 5 :: st) h) := e_gf cal rfl
theorem u_R_keepsAll_46 : ex cal k_R_keepsAll 46 (x0 :: aI v :: ls) (st) h = ex cal k_R_keepsAll 47 (x0 :: aI v :: ls) (aI v :: st) h := ex_st cal (s := s_ild 1 47) rfl rfl
theorem u_R_keepsAll_47 (hl : Nat.ble st.length 4 = true) : ex cal k_R_keepsAll 47 (ls) (aI z1 :: aQ r0 :: aQ (some a) :: st) h = gO h a 10 (kk cal k_R_keepsAll 50 ls st (cal M_R_keeps [aQ (some a), aQ r0, aI z1] h)) := e_callV cal (ci := 10) (as := [aI z1, aQ r0]) rfl (by decide) rfl (Nat.le_of_ble_eq_true hl)
theorem u_R_keepsAll_50 : ex cal k_R_keepsAll 50 (aQ r :: ls) (st) h = ex cal k_R_keepsAll 51 (aQ r :: ls) (aQ r :: st) h := ex_st cal (s := s_ald 0 51) rfl rfl
theorem u_R_keepsAll_51 : ex cal k_R_keepsAll 51 (aQ r :: ls) (st) h = ex cal k_R_keepsAll 52 (aQ r :: ls) (aQ r :: st) h := ex_st cal (s := s_ald 0 52) rfl rfl
theorem u_R_keepsAll_52 : ex cal k_R_keepsAll 52 (ls) (aQ (some a) :: st) h = gO h a 10 (ex cal k_R_keepsAll 55 (ls) (gf h a 6 :: st) h) := e_gf cal rfl
theorem u_R_keepsAll_55 : ex cal k_R_keepsAll 55 (x0 :: aI v :: ls) (st) h = ex cal k_R_keepsAll 56 (x0 :: aI v :: ls) (aI v :: st) h := ex_st cal (s := s_ild 1 56) rfl rfl
theorem u_R_keepsAll_56 (hl : Nat.ble st.length 4 = true) : ex cal k_R_keepsAll 56 (ls) (aI z1 :: aQ r0 :: aQ (some a) :: st) h = gO h a 10 (kk cal k_R_keepsAll 59 ls st (cal M_R_keeps [aQ (some a), aQ r0, aI z1] h)) := e_callV cal (ci := 10) (as := [aI z1, aQ r0]) rfl (by decide) rfl (Nat.le_of_ble_eq_true hl)
theorem u_R_keepsAll_59 : ex cal k_R_keepsAll 59 (aQ r :: ls) (st) h = ex cal k_R_keepsAll 60 (aQ r :: ls) (aQ r :: st) h := ex_st cal (s := s_ald 0 60) rfl rfl
theorem u_R_keepsAll_60 : ex cal k_R_keepsAll 60 (aQ r :: ls) (st) h = ex cal k_R_keepsAll 61 (aQ r :: ls) (aQ r :: st) h := ex_st cal (s := s_ald 0 61) rfl rfl
theorem u_R_keepsAll_61 : ex cal k_R_keepsAll 61 (ls) (aQ (some a) :: st) h = gO h a 10 (ex cal k_R_keepsAll 64 (ls) (gf h a 7 :: st) h) := e_gf cal rfl
theorem u_R_keepsAll_64 : ex cal k_R_keepsAll 64 (x0 :: aI v :: ls) (st) h = ex cal k_R_keepsAll 65 (x0 :: aI v :: ls) (aI v :: st) h := ex_st cal (s := s_ild 1 65) rfl rfl
theorem u_R_keepsAll_65 (hl : Nat.ble st.length 4 = true) : ex cal k_R_keepsAll 65 (ls) (aI z1 :: aQ r0 :: aQ (some a) :: st) h = gO h a 10 (kk cal k_R_keepsAll 68 ls st (cal M_R_keeps [aQ (some a), aQ r0, aI z1] h)) := e_callV cal (ci := 10) (as := [aI z1, aQ r0]) rfl (by decide) rfl (Nat.le_of_ble_eq_true hl)
theorem u_R_keepsAll_68 : ex cal k_R_keepsAll 68 (aQ r :: ls) (st) h = ex cal k_R_keepsAll 69 (aQ r :: ls) (aQ r :: st) h := ex_st cal (s := s_ald 0 69) rfl rfl
theorem u_R_keepsAll_69 : ex cal k_R_keepsAll 69 (aQ r :: ls) (st) h = ex cal k_R_keepsAll 70 (aQ r :: ls) (aQ r :: st) h := ex_st cal (s := s_ald 0 70) rfl rfl
theorem u_R_keepsAll_70 : ex cal k_R_keepsAll 70 (ls) (aQ (some a) :: st) h = gO h a 10 (ex cal k_R_keepsAll 73 (ls) (gf h a 8 :: st) h) := e_gf cal rfl
theorem u_R_keepsAll_73 : ex cal k_R_keepsAll 73 (x0 :: aI v :: ls) (st) h = ex cal k_R_keepsAll 74 (x0 :: aI v :: ls) (aI v :: st) h := ex_st cal (s := s_ild 1 74) rfl rfl
theorem u_R_keepsAll_74 (hl : Nat.ble st.length 4 = true) : ex cal k_R_keepsAll 74 (ls) (aI z1 :: aQ r0 :: aQ (some a) :: st) h = gO h a 10 (kk cal k_R_keepsAll 77 ls st (cal M_R_keeps [aQ (some a), aQ r0, aI z1] h)) := e_callV cal (ci := 10) (as := [aI z1, aQ r0]) rfl (by decide) rfl (Nat.le_of_ble_eq_true hl)
theorem u_R_keepsAll_77 : ex cal k_R_keepsAll 77 (aQ r :: ls) (st) h = ex cal k_R_keepsAll 78 (aQ r :: ls) (aQ r :: st) h := ex_st cal (s := s_ald 0 78) rfl rfl
theorem u_R_keepsAll_78 : ex cal k_R_keepsAll 78 (aQ r :: ls) (st) h = ex cal k_R_keepsAll 79 (aQ r :: ls) (aQ r :: st) h := ex_st cal (s := s_ald 0 79) rfl rfl
theorem u_R_keepsAll_79 : ex cal k_R_keepsAll 79 (ls) (aQ (some a) :: st) h = gO h a 10 (ex cal k_R_keepsAll 82 (ls) (gf h a 9 :: st) h) := e_gf cal rfl
theorem u_R_keepsAll_82 : ex cal k_R_keepsAll 82 (x0 :: aI v :: ls) (st) h = ex cal k_R_keepsAll 83 (x0 :: aI v :: ls) (aI v :: st) h := ex_st cal (s := s_ild 1 83) rfl rfl
theorem u_R_keepsAll_83 (hl : Nat.ble st.length 4 = true) : ex cal k_R_keepsAll 83 (ls) (aI z1 :: aQ r0 :: aQ (some a) :: st) h = gO h a 10 (kk cal k_R_keepsAll 86 ls st (cal M_R_keeps [aQ (some a), aQ r0, aI z1] h)) := e_callV cal (ci := 10) (as := [aI z1, aQ r0]) rfl (by decide) rfl (Nat.le_of_ble_eq_true hl)
theorem u_R_keepsAll_86 : ex cal k_R_keepsAll 86 (aQ r :: ls) (st) h = ex cal k_R_keepsAll 87 (aQ r :: ls) (aQ r :: st) h := ex_st cal (s := s_ald 0 87) rfl rfl
theorem u_R_keepsAll_87 : ex cal k_R_keepsAll 87 (aQ r :: ls) (st) h = ex cal k_R_keepsAll 88 (aQ r :: ls) (aQ r :: st) h := ex_st cal (s := s_ald 0 88) rfl rfl
theorem u_R_keepsAll_88 : ex cal k_R_keepsAll 88 (ls) (aQ (some a) :: st) h = gO h a 10 (ex cal k_R_keepsAll 91 (ls) (gf h a 10 :: st) h) := e_gf cal rfl
theorem u_R_keepsAll_91 : ex cal k_R_keepsAll 91 (x0 :: aI v :: ls) (st) h = ex cal k_R_keepsAll 92 (x0 :: aI v :: ls) (aI v :: st) h := ex_st cal (s := s_ild 1 92) rfl rfl
theorem u_R_keepsAll_92 (hl : Nat.ble st.length 4 = true) : ex cal k_R_keepsAll 92 (ls) (aI z1 :: aQ r0 :: aQ (some a) :: st) h = gO h a 10 (kk cal k_R_keepsAll 95 ls st (cal M_R_keeps [aQ (some a), aQ r0, aI z1] h)) := e_callV cal (ci := 10) (as := [aI z1, aQ r0]) rfl (by decide) rfl (Nat.le_of_ble_eq_true hl)
theorem u_R_keepsAll_95 : ex cal k_R_keepsAll 95 (aQ r :: ls) (st) h = ex cal k_R_keepsAll 96 (aQ r :: ls) (aQ r :: st) h := ex_st cal (s := s_ald 0 96) rfl rfl
theorem u_R_keepsAll_96 : ex cal k_R_keepsAll 96 (aQ r :: ls) (st) h = ex cal k_R_keepsAll 97 (aQ r :: ls) (aQ r :: st) h := ex_st cal (s := s_ald 0 97) rfl rfl
theorem u_R_keepsAll_97 : ex cal k_R_keepsAll 97 (ls) (aQ (some a) :: st) h = gO h a 10 (ex cal k_R_keepsAll 100 (ls) (gf h a 11 :: st) h) := e_gf cal rfl
theorem u_R_keepsAll_100 : ex cal k_R_keepsAll 100 (x0 :: aI v :: ls) (st) h = ex cal k_R_keepsAll 101 (x0 :: aI v :: ls) (aI v :: st) h := ex_st cal (s := s_ild 1 101) rfl rfl
theorem u_R_keepsAll_101 (hl : Nat.ble st.length 4 = true) : ex cal k_R_keepsAll 101 (ls) (aI z1 :: aQ r0 :: aQ (some a) :: st) h = gO h a 10 (kk cal k_R_keepsAll 104 ls st (cal M_R_keeps [aQ (some a), aQ r0, aI z1] h)) := e_callV cal (ci := 10) (as := [aI z1, aQ r0]) rfl (by decide) rfl (Nat.le_of_ble_eq_true hl)
theorem u_R_keepsAll_104 : ex cal k_R_keepsAll 104 (aQ r :: ls) (st) h = ex cal k_R_keepsAll 105 (aQ r :: ls) (aQ r :: st) h := ex_st cal (s := s_ald 0 105) rfl rfl
theorem u_R_keepsAll_105 : ex cal k_R_keepsAll 105 (aQ r :: ls) (st) h = ex cal k_R_keepsAll 106 (aQ r :: ls) (aQ r :: st) h := ex_st cal (s := s_ald 0 106) rfl rfl
theorem u_R_keepsAll_106 : ex cal k_R_keepsAll 106 (ls) (aQ (some a) :: st) h = gO h a 10 (ex cal k_R_keepsAll 109 (ls) (gf h a 12 :: st) h) := e_gf cal rfl
theorem u_R_keepsAll_109 : ex cal k_R_keepsAll 109 (x0 :: aI v :: ls) (st) h = ex cal k_R_keepsAll 110 (x0 :: aI v :: ls) (aI v :: st) h := ex_st cal (s := s_ild 1 110) rfl rfl
theorem u_R_keepsAll_110 (hl : Nat.ble st.length 4 = true) : ex cal k_R_keepsAll 110 (ls) (aI z1 :: aQ r0 :: aQ (some a) :: st) h = gO h a 10 (kk cal k_R_keepsAll 113 ls st (cal M_R_keeps [aQ (some a), aQ r0, aI z1] h)) := e_callV cal (ci := 10) (as := [aI z1, aQ r0]) rfl (by decide) rfl (Nat.le_of_ble_eq_true hl)
theorem u_R_keepsAll_113 : ex cal k_R_keepsAll 113 (aQ r :: ls) (st) h = ex cal k_R_keepsAll 114 (aQ r :: ls) (aQ r :: st) h := ex_st cal (s := s_ald 0 114) rfl rfl
theorem u_R_keepsAll_114 : ex cal k_R_keepsAll 114 (aQ r :: ls) (st) h = ex cal k_R_keepsAll 115 (aQ r :: ls) (aQ r :: st) h := ex_st cal (s := s_ald 0 115) rfl rfl
theorem u_R_keepsAll_115 : ex cal k_R_keepsAll 115 (ls) (aQ (some a) :: st) h = gO h a 10 (ex cal k_R_keepsAll 118 (ls) (gf h a 13 :: st) h) := e_gf cal rfl
theorem u_R_keepsAll_118 : ex cal k_R_keepsAll 118 (x0 :: aI v :: ls) (st) h = ex cal k_R_keepsAll 119 (x0 :: aI v :: ls) (aI v :: st) h := ex_st cal (s := s_ild 1 119) rfl rfl
theorem u_R_keepsAll_119 (hl : Nat.ble st.length 4 = true) : ex cal k_R_keepsAll 119 (ls) (aI z1 :: aQ r0 :: aQ (some a) :: st) h = gO h a 10 (kk cal k_R_keepsAll 122 ls st (cal M_R_keeps [aQ (some a), aQ r0, aI z1] h)) := e_callV cal (ci := 10) (as := [aI z1, aQ r0]) rfl (by decide) rfl (Nat.le_of_ble_eq_true hl)
theorem u_R_keepsAll_122 : ex cal k_R_keepsAll 122 (aQ r :: ls) (st) h = ex cal k_R_keepsAll 123 (aQ r :: ls) (aQ r :: st) h := ex_st cal (s := s_ald 0 123) rfl rfl
theorem u_R_keepsAll_123 : ex cal k_R_keepsAll 123 (aQ r :: ls) (st) h = ex cal k_R_keepsAll 124 (aQ r :: ls) (aQ r :: st) h := ex_st cal (s := s_ald 0 124) rfl rfl
theorem u_R_keepsAll_124 : ex cal k_R_keepsAll 124 (ls) (aQ (some a) :: st) h = gO h a 10 (ex cal k_R_keepsAll 127 (ls) (gf h a 14 :: st) h) := e_gf cal rfl
theorem u_R_keepsAll_127 : ex cal k_R_keepsAll 127 (x0 :: aI v :: ls) (st) h = ex cal k_R_keepsAll 128 (x0 :: aI v :: ls) (aI v :: st) h := ex_st cal (s := s_ild 1 128) rfl rfl
theorem u_R_keepsAll_128 (hl : Nat.ble st.length 4 = true) : ex cal k_R_keepsAll 128 (ls) (aI z1 :: aQ r0 :: aQ (some a) :: st) h = gO h a 10 (kk cal k_R_keepsAll 131 ls st (cal M_R_keeps [aQ (some a), aQ r0, aI z1] h)) := e_callV cal (ci := 10) (as := [aI z1, aQ r0]) rfl (by decide) rfl (Nat.le_of_ble_eq_true hl)
theorem u_R_keepsAll_131 : ex cal k_R_keepsAll 131 (ls) ([]) h = some (none, h) := e_ret0 cal rfl
theorem n_R_keepsAll (d : Nat) : ev (d + 1) M_R_keepsAll [aQ (some a), aI z0] h = ex (ev d) k_R_keepsAll 0 [aQ (some a), aI z0] [] h := rfl
theorem u_R_image_0 : ex cal k_R_image 0 (aQ r :: ls) (st) h = ex cal k_R_image 1 (aQ r :: ls) (aQ r :: st) h := ex_st cal (s := s_ald 0 1) rfl rfl
theorem u_R_image_1 : ex cal k_R_image 1 (ls) (st) h = ex cal k_R_image 2 (ls) (aI 1 :: st) h := e_push cal rfl
theorem u_R_image_2 (hl : Nat.ble st.length 4 = true) : ex cal k_R_image 2 (ls) (aI z0 :: aQ (some a) :: st) h = gO h a 10 (kk cal k_R_image 5 ls st (cal M_R_keepsAll [aQ (some a), aI z0] h)) := e_callV cal (ci := 10) (as := [aI z0]) rfl (by decide) rfl (Nat.le_of_ble_eq_true hl)
theorem u_R_image_5 : ex cal k_R_image 5 (aQ r :: ls) (st) h = ex cal k_R_image 6 (aQ r :: ls) (aQ r :: st) h := ex_st cal (s := s_ald 0 6) rfl rfl
theorem u_R_image_6 : ex cal k_R_image 6 (ls) (st) h = ex cal k_R_image 7 (ls) (aI 1 :: st) h := e_push cal rfl
theorem u_R_image_7 (hv : v = 0 ∨ v = 1) : ex cal k_R_image 7 (ls) (aI v :: aQ (some a) :: st) h = gO h a 10 (ex cal k_R_image 10 (ls) (st) (pf h a 16 (aI v))) := e_pf1 rfl (okT1 hv)
theorem u_R_image_10 : ex cal k_R_image 10 (aQ r :: ls) (st) h = ex cal k_R_image 11 (aQ r :: ls) (aQ r :: st) h := ex_st cal (s := s_ald 0 11) rfl rfl
theorem u_R_image_11 : ex cal k_R_image 11 (ls) (st) h = ex cal k_R_image 12 (ls) (aI 1 :: st) h := e_push cal rfl
theorem u_R_image_12 (hl : Nat.ble st.length 4 = true) : ex cal k_R_image 12 (ls) (aI z0 :: aQ (some a) :: st) h = gO h a 10 (kk cal k_R_image 15 ls st (cal M_R_done [aQ (some a), aI z0] h)) := e_callV cal (ci := 10) (as := [aI z0]) rfl (by decide) rfl (Nat.le_of_ble_eq_true hl)
theorem u_R_image_15 : ex cal k_R_image 15 (ls) ([aI v]) h = some (some (aI v), h) := e_ret1 cal rfl
theorem n_R_image (d : Nat) : ev (d + 1) M_R_image [aQ (some a)] h = ex (ev d) k_R_image 0 [aQ (some a)] [] h := rfl
theorem u_R_restore_0 : ex cal k_R_restore 0 (aQ r :: ls) (st) h = ex cal k_R_restore 1 (aQ r :: ls) (aQ r :: st) h := ex_st cal (s := s_ald 0 1) rfl rfl
theorem u_R_restore_1 : ex cal k_R_restore 1 (ls) (aQ (some a) :: st) h = gO h a 10 (ex cal k_R_restore 4 (ls) (gf h a 17 :: st) h) := e_gf cal rfl
theorem u_R_restore_4 : ex cal k_R_restore 4 (ls) (st) h = ex cal k_R_restore 6 (ls) (aI 10 :: st) h := e_push cal rfl
theorem u_R_restore_6 : ex cal k_R_restore 6 (ls) (aI j :: aI i :: st) h = if wr i = wr j then ex cal k_R_restore 9 (ls) (st) h else ex cal k_R_restore 15 (ls) (st) h := e_icne cal rfl
theorem u_R_restore_9 : ex cal k_R_restore 9 (aQ r :: ls) (st) h = ex cal k_R_restore 10 (aQ r :: ls) (aQ r :: st) h := ex_st cal (s := s_ald 0 10) rfl rfl
theorem u_R_restore_10 : ex cal k_R_restore 10 (ls) (st) h = ex cal k_R_restore 11 (ls) (aI 2 :: st) h := e_push cal rfl
theorem u_R_restore_11 (hl : Nat.ble st.length 4 = true) : ex cal k_R_restore 11 (ls) (aI z0 :: aQ (some a) :: st) h = gO h a 10 (kk cal k_R_restore 14 ls st (cal M_R_refused [aQ (some a), aI z0] h)) := e_callV cal (ci := 10) (as := [aI z0]) rfl (by decide) rfl (Nat.le_of_ble_eq_true hl)
theorem u_R_restore_14 : ex cal k_R_restore 14 (ls) ([aI v]) h = some (some (aI v), h) := e_ret1 cal rfl
theorem u_R_restore_15 : ex cal k_R_restore 15 (aQ r :: ls) (st) h = ex cal k_R_restore 16 (aQ r :: ls) (aQ r :: st) h := ex_st cal (s := s_ald 0 16) rfl rfl
theorem u_R_restore_16 : ex cal k_R_restore 16 (ls) (aQ (some a) :: st) h = gO h a 10 (ex cal k_R_restore 19 (ls) (gf h a 16 :: st) h) := e_gf cal rfl
theorem u_R_restore_19 : ex cal k_R_restore 19 (ls) (aI i :: st) h = if wr i = 0 then ex cal k_R_restore 22 (ls) (st) h else ex cal k_R_restore 28 (ls) (st) h := e_ifne cal rfl
theorem u_R_restore_22 : ex cal k_R_restore 22 (aQ r :: ls) (st) h = ex cal k_R_restore 23 (aQ r :: ls) (aQ r :: st) h := ex_st cal (s := s_ald 0 23) rfl rfl
theorem u_R_restore_23 : ex cal k_R_restore 23 (ls) (st) h = ex cal k_R_restore 24 (ls) (aI 3 :: st) h := e_push cal rfl
theorem u_R_restore_24 (hl : Nat.ble st.length 4 = true) : ex cal k_R_restore 24 (ls) (aI z0 :: aQ (some a) :: st) h = gO h a 10 (kk cal k_R_restore 27 ls st (cal M_R_refused [aQ (some a), aI z0] h)) := e_callV cal (ci := 10) (as := [aI z0]) rfl (by decide) rfl (Nat.le_of_ble_eq_true hl)
theorem u_R_restore_27 : ex cal k_R_restore 27 (ls) ([aI v]) h = some (some (aI v), h) := e_ret1 cal rfl
theorem u_R_restore_28 : ex cal k_R_restore 28 (aQ r :: ls) (st) h = ex cal k_R_restore 29 (aQ r :: ls) (aQ r :: st) h := ex_st cal (s := s_ald 0 29) rfl rfl
theorem u_R_restore_29 (hx : aNl y = true) : ex cal k_R_restore 29 (ls) (y :: st) h = ex cal k_R_restore 30 (ls) (y :: y :: st) h := e_dup rfl hx
theorem u_R_restore_30 : ex cal k_R_restore 30 (ls) (aQ (some a) :: st) h = gO h a 10 (ex cal k_R_restore 33 (ls) (gf h a 17 :: st) h) := e_gf cal rfl
theorem u_R_restore_33 : ex cal k_R_restore 33 (ls) (st) h = ex cal k_R_restore 34 (ls) (aI 1 :: st) h := e_push cal rfl
theorem u_R_restore_34 : ex cal k_R_restore 34 (ls) (aI j :: aI i :: st) h = ex cal k_R_restore 35 (ls) (aI (i + j) :: st) h := e_bin cal rfl
theorem u_R_restore_35 : ex cal k_R_restore 35 (ls) (aI v :: aQ (some a) :: st) h = gO h a 10 (ex cal k_R_restore 38 (ls) (st) (pf h a 17 (aI v))) := e_pf1 rfl rfl
theorem u_R_restore_38 : ex cal k_R_restore 38 (aQ r :: ls) (st) h = ex cal k_R_restore 39 (aQ r :: ls) (aQ r :: st) h := ex_st cal (s := s_ald 0 39) rfl rfl
theorem u_R_restore_39 : ex cal k_R_restore 39 (ls) (st) h = ex cal k_R_restore 40 (ls) (aI 0 :: st) h := e_push cal rfl
theorem u_R_restore_40 (hl : Nat.ble st.length 4 = true) : ex cal k_R_restore 40 (ls) (aI z0 :: aQ (some a) :: st) h = gO h a 10 (kk cal k_R_restore 43 ls st (cal M_R_keepsAll [aQ (some a), aI z0] h)) := e_callV cal (ci := 10) (as := [aI z0]) rfl (by decide) rfl (Nat.le_of_ble_eq_true hl)
theorem u_R_restore_43 : ex cal k_R_restore 43 (aQ r :: ls) (st) h = ex cal k_R_restore 44 (aQ r :: ls) (aQ r :: st) h := ex_st cal (s := s_ald 0 44) rfl rfl
theorem u_R_restore_44 : ex cal k_R_restore 44 (aQ r :: ls) (st) h = ex cal k_R_restore 45 (aQ r :: ls) (aQ r :: st) h := ex_st cal (s := s_ald 0 45) rfl rfl
theorem u_R_restore_45 : ex cal k_R_restore 45 (ls) (aQ (some a) :: st) h = gO h a 10 (ex cal k_R_restore 48 (ls) (gf h a 14 :: st) h) := e_gf cal rfl
theorem u_R_restore_48 : ex cal k_R_restore 48 (ls) (st) h = ex cal k_R_restore 49 (ls) (aI 4 :: st) h := e_push cal rfl
theorem u_R_restore_49 : ex cal k_R_restore 49 (ls) (aI i :: aQ (some a) :: st) h = gA h a i (ex cal k_R_restore 50 (ls) (aI (ai h a (wr i)) :: st) h) := e_ia cal rfl
theorem u_R_restore_50 (hl : Nat.ble st.length 4 = true) : ex cal k_R_restore 50 (ls) (aI z0 :: aQ (some a) :: st) h = gO h a 10 (kk cal k_R_restore 53 ls st (cal M_R_done [aQ (some a), aI z0] h)) := e_callV cal (ci := 10) (as := [aI z0]) rfl (by decide) rfl (Nat.le_of_ble_eq_true hl)
theorem u_R_restore_53 : ex cal k_R_restore 53 (ls) ([aI v]) h = some (some (aI v), h) := e_ret1 cal rfl
theorem n_R_restore (d : Nat) : ev (d + 1) M_R_restore [aQ (some a)] h = ex (ev d) k_R_restore 0 [aQ (some a)] [] h := rfl
theorem u_R_lines_0 : ex cal k_R_lines 0 (x0 :: aI v :: ls) (st) h = ex cal k_R_lines 1 (x0 :: aI v :: ls) (aI v :: st) h := ex_st cal (s := s_ild 1 1) rfl rfl
theorem u_R_lines_1 (hl : Nat.ble st.length 4 = true) : ex cal k_R_lines 1 (ls) (aI z0 :: st) h = kk cal k_R_lines 4 ls st (cal M_R_isFile [aI z0] h) := e_call cal (as := [aI z0]) rfl rfl (Nat.le_of_ble_eq_true hl)
theorem u_R_lines_4 : ex cal k_R_lines 4 (ls) (aI i :: st) h = if wr i = 0 then ex cal k_R_lines 16 (ls) (st) h else ex cal k_R_lines 7 (ls) (st) h := e_ifeq cal rfl
theorem u_R_lines_7 : ex cal k_R_lines 7 (aQ r :: ls) (st) h = ex cal k_R_lines 8 (aQ r :: ls) (aQ r :: st) h := ex_st cal (s := s_ald 0 8) rfl rfl
theorem u_R_lines_8 : ex cal k_R_lines 8 (ls) (aQ (some a) :: st) h = gO h a 10 (ex cal k_R_lines 11 (ls) (gf h a 1 :: st) h) := e_gf cal rfl
theorem u_R_lines_11 : ex cal k_R_lines 11 (x0 :: aI v :: ls) (st) h = ex cal k_R_lines 12 (x0 :: aI v :: ls) (aI v :: st) h := ex_st cal (s := s_ild 1 12) rfl rfl
theorem u_R_lines_12 : ex cal k_R_lines 12 (ls) (aI i :: aQ (some a) :: st) h = gA h a i (ex cal k_R_lines 13 (ls) (aI (ai h a (wr i)) :: st) h) := e_ia cal rfl
theorem u_R_lines_13 : ex cal k_R_lines 13 (ls) (st) h = ex cal k_R_lines 17 (ls) (st) h := ex_st cal (s := s_go 17) rfl rfl
theorem u_R_lines_16 : ex cal k_R_lines 16 (ls) (st) h = ex cal k_R_lines 17 (ls) (aI (-1) :: st) h := e_push cal rfl
theorem u_R_lines_17 : ex cal k_R_lines 17 (ls) ([aI v]) h = some (some (aI v), h) := e_ret1 cal rfl
theorem n_R_lines (d : Nat) : ev (d + 1) M_R_lines [aQ (some a), aI z0] h = ex (ev d) k_R_lines 0 [aQ (some a), aI z0] [] h := rfl
theorem u_R_line_0 : ex cal k_R_line 0 (aQ r :: ls) (st) h = ex cal k_R_line 1 (aQ r :: ls) (aQ r :: st) h := ex_st cal (s := s_ald 0 1) rfl rfl
theorem u_R_line_1 : ex cal k_R_line 1 (x0 :: aI v :: ls) (st) h = ex cal k_R_line 2 (x0 :: aI v :: ls) (aI v :: st) h := ex_st cal (s := s_ild 1 2) rfl rfl
theorem u_R_line_2 : ex cal k_R_line 2 (x0 :: x1 :: aI v :: ls) (st) h = ex cal k_R_line 3 (x0 :: x1 :: aI v :: ls) (aI v :: st) h := ex_st cal (s := s_ild 2 3) rfl rfl
theorem u_R_line_3 (hl : Nat.ble st.length 4 = true) : ex cal k_R_line 3 (ls) (aI z1 :: aI z0 :: aQ (some a) :: st) h = gO h a 10 (kk cal k_R_line 6 ls st (cal M_R_isLine [aQ (some a), aI z0, aI z1] h)) := e_callV cal (ci := 10) (as := [aI z1, aI z0]) rfl (by decide) rfl (Nat.le_of_ble_eq_true hl)
theorem u_R_line_6 : ex cal k_R_line 6 (ls) (aI i :: st) h = if wr i = 0 then ex cal k_R_line 41 (ls) (st) h else ex cal k_R_line 9 (ls) (st) h := e_ifeq cal rfl
theorem u_R_line_9 : ex cal k_R_line 9 (x0 :: x1 :: x2 :: aI v :: ls) (st) h = ex cal k_R_line 10 (x0 :: x1 :: x2 :: aI v :: ls) (aI v :: st) h := ex_st cal (s := s_ild 3 10) rfl rfl
theorem u_R_line_10 : ex cal k_R_line 10 (ls) (aI i :: st) h = ex cal k_R_line 11 (ls) (aL (wr i) :: st) h := ex_st cal (s := s_i2l 11) rfl rfl
theorem u_R_line_11 : ex cal k_R_line 11 (ls) (st) h = ex cal k_R_line 12 (ls) (aL 0 :: st) h := e_push cal rfl
theorem u_R_line_12 : ex cal k_R_line 12 (ls) (st) h = ex cal k_R_line 15 (ls) (aL 2 :: st) h := e_push cal rfl
theorem u_R_line_15 (hl : Nat.ble st.length 4 = true) : ex cal k_R_line 15 (ls) (aL z2 :: aL z1 :: aL z0 :: st) h = kk cal k_R_line 18 ls st (cal M_R_isIn [aL z0, aL z1, aL z2] h) := e_call cal (as := [aL z2, aL z1, aL z0]) rfl rfl (Nat.le_of_ble_eq_true hl)
theorem u_R_line_18 : ex cal k_R_line 18 (ls) (aI i :: st) h = if wr i = 0 then ex cal k_R_line 41 (ls) (st) h else ex cal k_R_line 21 (ls) (st) h := e_ifeq cal rfl
theorem u_R_line_21 : ex cal k_R_line 21 (aQ r :: ls) (st) h = ex cal k_R_line 22 (aQ r :: ls) (aQ r :: st) h := ex_st cal (s := s_ald 0 22) rfl rfl
theorem u_R_line_22 : ex cal k_R_line 22 (ls) (aQ (some a) :: st) h = gO h a 10 (ex cal k_R_line 25 (ls) (gf h a 0 :: st) h) := e_gf cal rfl
theorem u_R_line_25 : ex cal k_R_line 25 (ls) (st) h = ex cal k_R_line 28 (ls) (aI 540 :: st) h := e_push cal rfl
theorem u_R_line_28 : ex cal k_R_line 28 (x0 :: aI v :: ls) (st) h = ex cal k_R_line 29 (x0 :: aI v :: ls) (aI v :: st) h := ex_st cal (s := s_ild 1 29) rfl rfl
theorem u_R_line_29 : ex cal k_R_line 29 (ls) (aI j :: aI i :: st) h = ex cal k_R_line 30 (ls) (aI (i * j) :: st) h := e_bin cal rfl
theorem u_R_line_30 : ex cal k_R_line 30 (ls) (st) h = ex cal k_R_line 32 (ls) (aI 27 :: st) h := e_push cal rfl
theorem u_R_line_32 : ex cal k_R_line 32 (x0 :: x1 :: aI v :: ls) (st) h = ex cal k_R_line 33 (x0 :: x1 :: aI v :: ls) (aI v :: st) h := ex_st cal (s := s_ild 2 33) rfl rfl
theorem u_R_line_33 : ex cal k_R_line 33 (ls) (aI j :: aI i :: st) h = ex cal k_R_line 34 (ls) (aI (i * j) :: st) h := e_bin cal rfl
theorem u_R_line_34 : ex cal k_R_line 34 (ls) (aI j :: aI i :: st) h = ex cal k_R_line 35 (ls) (aI (i + j) :: st) h := e_bin cal rfl
theorem u_R_line_35 : ex cal k_R_line 35 (x0 :: x1 :: x2 :: aI v :: ls) (st) h = ex cal k_R_line 36 (x0 :: x1 :: x2 :: aI v :: ls) (aI v :: st) h := ex_st cal (s := s_ild 3 36) rfl rfl
theorem u_R_line_36 : ex cal k_R_line 36 (ls) (aI j :: aI i :: st) h = ex cal k_R_line 37 (ls) (aI (i + j) :: st) h := e_bin cal rfl
theorem u_R_line_37 : ex cal k_R_line 37 (ls) (aI i :: aQ (some a) :: st) h = gA h a i (ex cal k_R_line 38 (ls) (aI (ai h a (wr i)) :: st) h) := e_ia cal rfl
theorem u_R_line_38 : ex cal k_R_line 38 (ls) (st) h = ex cal k_R_line 42 (ls) (st) h := ex_st cal (s := s_go 42) rfl rfl
theorem u_R_line_41 : ex cal k_R_line 41 (ls) (st) h = ex cal k_R_line 42 (ls) (aI (-1) :: st) h := e_push cal rfl
theorem u_R_line_42 : ex cal k_R_line 42 (ls) ([aI v]) h = some (some (aI v), h) := e_ret1 cal rfl
theorem n_R_line (d : Nat) : ev (d + 1) M_R_line [aQ (some a), aI z0, aI z1, aI z2] h = ex (ev d) k_R_line 0 [aQ (some a), aI z0, aI z1, aI z2] [] h := rfl
theorem u_R_mark_0 : ex cal k_R_mark 0 (aQ r :: ls) (st) h = ex cal k_R_mark 1 (aQ r :: ls) (aQ r :: st) h := ex_st cal (s := s_ald 0 1) rfl rfl
theorem u_R_mark_1 : ex cal k_R_mark 1 (x0 :: aI v :: ls) (st) h = ex cal k_R_mark 2 (x0 :: aI v :: ls) (aI v :: st) h := ex_st cal (s := s_ild 1 2) rfl rfl
theorem u_R_mark_2 : ex cal k_R_mark 2 (x0 :: x1 :: aI v :: ls) (st) h = ex cal k_R_mark 3 (x0 :: x1 :: aI v :: ls) (aI v :: st) h := ex_st cal (s := s_ild 2 3) rfl rfl
theorem u_R_mark_3 (hl : Nat.ble st.length 4 = true) : ex cal k_R_mark 3 (ls) (aI z1 :: aI z0 :: aQ (some a) :: st) h = gO h a 10 (kk cal k_R_mark 6 ls st (cal M_R_isLine [aQ (some a), aI z0, aI z1] h)) := e_callV cal (ci := 10) (as := [aI z1, aI z0]) rfl (by decide) rfl (Nat.le_of_ble_eq_true hl)
theorem u_R_mark_6 : ex cal k_R_mark 6 (ls) (aI i :: st) h = if wr i = 0 then ex cal k_R_mark 51 (ls) (st) h else ex cal k_R_mark 9 (ls) (st) h := e_ifeq cal rfl
theorem u_R_mark_9 : ex cal k_R_mark 9 (x0 :: x1 :: x2 :: x3 :: aI v :: ls) (st) h = ex cal k_R_mark 11 (x0 :: x1 :: x2 :: x3 :: aI v :: ls) (aI v :: st) h := ex_st cal (s := s_ild 4 11) rfl rfl
theorem u_R_mark_11 : ex cal k_R_mark 11 (ls) (aI i :: st) h = ex cal k_R_mark 12 (ls) (aL (wr i) :: st) h := ex_st cal (s := s_i2l 12) rfl rfl
theorem u_R_mark_12 : ex cal k_R_mark 12 (ls) (st) h = ex cal k_R_mark 13 (ls) (aL 0 :: st) h := e_push cal rfl
theorem u_R_mark_13 : ex cal k_R_mark 13 (ls) (st) h = ex cal k_R_mark 16 (ls) (aL 2 :: st) h := e_push cal rfl
theorem u_R_mark_16 (hl : Nat.ble st.length 4 = true) : ex cal k_R_mark 16 (ls) (aL z2 :: aL z1 :: aL z0 :: st) h = kk cal k_R_mark 19 ls st (cal M_R_isIn [aL z0, aL z1, aL z2] h) := e_call cal (as := [aL z2, aL z1, aL z0]) rfl rfl (Nat.le_of_ble_eq_true hl)
theorem u_R_mark_19 : ex cal k_R_mark 19 (ls) (aI i :: st) h = if wr i = 0 then ex cal k_R_mark 51 (ls) (st) h else ex cal k_R_mark 22 (ls) (st) h := e_ifeq cal rfl
theorem u_R_mark_22 : ex cal k_R_mark 22 (x0 :: x1 :: x2 :: aI v :: ls) (st) h = ex cal k_R_mark 23 (x0 :: x1 :: x2 :: aI v :: ls) (aI v :: st) h := ex_st cal (s := s_ild 3 23) rfl rfl
theorem u_R_mark_23 : ex cal k_R_mark 23 (ls) (aI i :: st) h = ex cal k_R_mark 24 (ls) (aL (wr i) :: st) h := ex_st cal (s := s_i2l 24) rfl rfl
theorem u_R_mark_24 : ex cal k_R_mark 24 (ls) (st) h = ex cal k_R_mark 25 (ls) (aL 0 :: st) h := e_push cal rfl
theorem u_R_mark_25 : ex cal k_R_mark 25 (aQ r :: ls) (st) h = ex cal k_R_mark 26 (aQ r :: ls) (aQ r :: st) h := ex_st cal (s := s_ald 0 26) rfl rfl
theorem u_R_mark_26 : ex cal k_R_mark 26 (ls) (aQ (some a) :: st) h = gO h a 10 (ex cal k_R_mark 29 (ls) (gf h a 0 :: st) h) := e_gf cal rfl
theorem u_R_mark_29 : ex cal k_R_mark 29 (ls) (st) h = ex cal k_R_mark 32 (ls) (aI 540 :: st) h := e_push cal rfl
theorem u_R_mark_32 : ex cal k_R_mark 32 (x0 :: aI v :: ls) (st) h = ex cal k_R_mark 33 (x0 :: aI v :: ls) (aI v :: st) h := ex_st cal (s := s_ild 1 33) rfl rfl
theorem u_R_mark_33 : ex cal k_R_mark 33 (ls) (aI j :: aI i :: st) h = ex cal k_R_mark 34 (ls) (aI (i * j) :: st) h := e_bin cal rfl
theorem u_R_mark_34 : ex cal k_R_mark 34 (ls) (st) h = ex cal k_R_mark 36 (ls) (aI 27 :: st) h := e_push cal rfl
theorem u_R_mark_36 : ex cal k_R_mark 36 (x0 :: x1 :: aI v :: ls) (st) h = ex cal k_R_mark 37 (x0 :: x1 :: aI v :: ls) (aI v :: st) h := ex_st cal (s := s_ild 2 37) rfl rfl
theorem u_R_mark_37 : ex cal k_R_mark 37 (ls) (aI j :: aI i :: st) h = ex cal k_R_mark 38 (ls) (aI (i * j) :: st) h := e_bin cal rfl
theorem u_R_mark_38 : ex cal k_R_mark 38 (ls) (aI j :: aI i :: st) h = ex cal k_R_mark 39 (ls) (aI (i + j) :: st) h := e_bin cal rfl
theorem u_R_mark_39 : ex cal k_R_mark 39 (ls) (st) h = ex cal k_R_mark 40 (ls) (aI 2 :: st) h := e_push cal rfl
theorem u_R_mark_40 : ex cal k_R_mark 40 (ls) (aI j :: aI i :: st) h = ex cal k_R_mark 41 (ls) (aI (i + j) :: st) h := e_bin cal rfl
theorem u_R_mark_41 : ex cal k_R_mark 41 (ls) (aI i :: aQ (some a) :: st) h = gA h a i (ex cal k_R_mark 42 (ls) (aI (ai h a (wr i)) :: st) h) := e_ia cal rfl
theorem u_R_mark_42 : ex cal k_R_mark 42 (ls) (st) h = ex cal k_R_mark 43 (ls) (aI 1 :: st) h := e_push cal rfl
theorem u_R_mark_43 : ex cal k_R_mark 43 (ls) (aI j :: aI i :: st) h = ex cal k_R_mark 44 (ls) (aI (i - j) :: st) h := e_bin cal rfl
theorem u_R_mark_44 : ex cal k_R_mark 44 (ls) (aI i :: st) h = ex cal k_R_mark 45 (ls) (aL (wr i) :: st) h := ex_st cal (s := s_i2l 45) rfl rfl
theorem u_R_mark_45 (hl : Nat.ble st.length 4 = true) : ex cal k_R_mark 45 (ls) (aL z2 :: aL z1 :: aL z0 :: st) h = kk cal k_R_mark 48 ls st (cal M_R_isIn [aL z0, aL z1, aL z2] h) := e_call cal (as := [aL z2, aL z1, aL z0]) rfl rfl (Nat.le_of_ble_eq_true hl)
theorem u_R_mark_48 : ex cal k_R_mark 48 (ls) (aI i :: st) h = if wr i = 0 then ex cal k_R_mark 51 (ls) (st) h else ex cal k_R_mark 53 (ls) (st) h := e_ifne cal rfl
theorem u_R_mark_51 : ex cal k_R_mark 51 (ls) (st) h = ex cal k_R_mark 52 (ls) (aI (-1) :: st) h := e_push cal rfl
theorem u_R_mark_52 : ex cal k_R_mark 52 (ls) ([aI v]) h = some (some (aI v), h) := e_ret1 cal rfl
theorem u_R_mark_53 : ex cal k_R_mark 53 (aQ r :: ls) (st) h = ex cal k_R_mark 54 (aQ r :: ls) (aQ r :: st) h := ex_st cal (s := s_ald 0 54) rfl rfl
theorem u_R_mark_54 : ex cal k_R_mark 54 (ls) (aQ (some a) :: st) h = gO h a 10 (ex cal k_R_mark 57 (ls) (gf h a 0 :: st) h) := e_gf cal rfl
theorem u_R_mark_57 : ex cal k_R_mark 57 (ls) (st) h = ex cal k_R_mark 60 (ls) (aI 540 :: st) h := e_push cal rfl
theorem u_R_mark_60 : ex cal k_R_mark 60 (x0 :: aI v :: ls) (st) h = ex cal k_R_mark 61 (x0 :: aI v :: ls) (aI v :: st) h := ex_st cal (s := s_ild 1 61) rfl rfl
theorem u_R_mark_61 : ex cal k_R_mark 61 (ls) (aI j :: aI i :: st) h = ex cal k_R_mark 62 (ls) (aI (i * j) :: st) h := e_bin cal rfl
theorem u_R_mark_62 : ex cal k_R_mark 62 (ls) (st) h = ex cal k_R_mark 64 (ls) (aI 27 :: st) h := e_push cal rfl
theorem u_R_mark_64 : ex cal k_R_mark 64 (x0 :: x1 :: aI v :: ls) (st) h = ex cal k_R_mark 65 (x0 :: x1 :: aI v :: ls) (aI v :: st) h := ex_st cal (s := s_ild 2 65) rfl rfl
theorem u_R_mark_65 : ex cal k_R_mark 65 (ls) (aI j :: aI i :: st) h = ex cal k_R_mark 66 (ls) (aI (i * j) :: st) h := e_bin cal rfl
theorem u_R_mark_66 : ex cal k_R_mark 66 (ls) (aI j :: aI i :: st) h = ex cal k_R_mark 67 (ls) (aI (i + j) :: st) h := e_bin cal rfl
theorem u_R_mark_67 : ex cal k_R_mark 67 (ls) (st) h = ex cal k_R_mark 68 (ls) (aI 3 :: st) h := e_push cal rfl
theorem u_R_mark_68 : ex cal k_R_mark 68 (ls) (aI j :: aI i :: st) h = ex cal k_R_mark 69 (ls) (aI (i + j) :: st) h := e_bin cal rfl
theorem u_R_mark_69 : ex cal k_R_mark 69 (ls) (st) h = ex cal k_R_mark 70 (ls) (aI 3 :: st) h := e_push cal rfl
theorem u_R_mark_70 : ex cal k_R_mark 70 (x0 :: x1 :: x2 :: aI v :: ls) (st) h = ex cal k_R_mark 71 (x0 :: x1 :: x2 :: aI v :: ls) (aI v :: st) h := ex_st cal (s := s_ild 3 71) rfl rfl
theorem u_R_mark_71 : ex cal k_R_mark 71 (ls) (aI j :: aI i :: st) h = ex cal k_R_mark 72 (ls) (aI (i * j) :: st) h := e_bin cal rfl
theorem u_R_mark_72 : ex cal k_R_mark 72 (ls) (aI j :: aI i :: st) h = ex cal k_R_mark 73 (ls) (aI (i + j) :: st) h := e_bin cal rfl
theorem u_R_mark_73 : ex cal k_R_mark 73 (x0 :: x1 :: x2 :: x3 :: aI v :: ls) (st) h = ex cal k_R_mark 75 (x0 :: x1 :: x2 :: x3 :: aI v :: ls) (aI v :: st) h := ex_st cal (s := s_ild 4 75) rfl rfl
theorem u_R_mark_75 : ex cal k_R_mark 75 (ls) (aI j :: aI i :: st) h = ex cal k_R_mark 76 (ls) (aI (i + j) :: st) h := e_bin cal rfl
theorem u_R_mark_76 : ex cal k_R_mark 76 (ls) (aI i :: aQ (some a) :: st) h = gA h a i (ex cal k_R_mark 77 (ls) (aI (ai h a (wr i)) :: st) h) := e_ia cal rfl
theorem u_R_mark_77 : ex cal k_R_mark 77 (ls) ([aI v]) h = some (some (aI v), h) := e_ret1 cal rfl
theorem n_R_mark (d : Nat) : ev (d + 1) M_R_mark [aQ (some a), aI z0, aI z1, aI z2, aI z3] h = ex (ev d) k_R_mark 0 [aQ (some a), aI z0, aI z1, aI z2, aI z3] [] h := rfl
theorem u_R_madeBy_0 : ex cal k_R_madeBy 0 (ls) (st) h = ex cal k_R_madeBy 1 (ls) (aI 0 :: st) h := e_push cal rfl
theorem u_R_madeBy_1 (hx : aNl x1 = true) : ex cal k_R_madeBy 1 (x0 :: x1 :: y :: ls) (aI v :: st) h = ex cal k_R_madeBy 2 (x0 :: x1 :: aI v :: ls) (st) h := e_ist (ls := x0 :: x1 :: y :: ls) (k := 2) rfl hx (by simp only [List.length_cons]; omega)
theorem u_R_madeBy_2 : ex cal k_R_madeBy 2 (ls) (st) h = ex cal k_R_madeBy 3 (ls) (aI 0 :: st) h := e_push cal rfl
theorem u_R_madeBy_3 (hx : aNl x2 = true) : ex cal k_R_madeBy 3 (x0 :: x1 :: x2 :: y :: ls) (aI v :: st) h = ex cal k_R_madeBy 4 (x0 :: x1 :: x2 :: aI v :: ls) (st) h := e_ist (ls := x0 :: x1 :: x2 :: y :: ls) (k := 3) rfl hx (by simp only [List.length_cons]; omega)
theorem u_R_madeBy_4 : ex cal k_R_madeBy 4 (x0 :: x1 :: x2 :: aI v :: ls) (st) h = ex cal k_R_madeBy 5 (x0 :: x1 :: x2 :: aI v :: ls) (aI v :: st) h := ex_st cal (s := s_ild 3 5) rfl rfl
theorem u_R_madeBy_5 : ex cal k_R_madeBy 5 (ls) (st) h = ex cal k_R_madeBy 7 (ls) (aI 6 :: st) h := e_push cal rfl
theorem u_R_madeBy_7 : ex cal k_R_madeBy 7 (ls) (aI j :: aI i :: st) h = if wr i < wr j then ex cal k_R_madeBy 10 (ls) (st) h else ex cal k_R_madeBy 66 (ls) (st) h := e_icge cal rfl
theorem u_R_madeBy_10 : ex cal k_R_madeBy 10 (ls) (st) h = ex cal k_R_madeBy 11 (ls) (aI 0 :: st) h := e_push cal rfl
theorem u_R_madeBy_11 (hx : aNl x3 = true) : ex cal k_R_madeBy 11 (x0 :: x1 :: x2 :: x3 :: y :: ls) (aI v :: st) h = ex cal k_R_madeBy 13 (x0 :: x1 :: x2 :: x3 :: aI v :: ls) (st) h := e_ist (ls := x0 :: x1 :: x2 :: x3 :: y :: ls) (k := 4) rfl hx (by simp only [List.length_cons]; omega)
theorem u_R_madeBy_13 : ex cal k_R_madeBy 13 (x0 :: x1 :: x2 :: x3 :: aI v :: ls) (st) h = ex cal k_R_madeBy 15 (x0 :: x1 :: x2 :: x3 :: aI v :: ls) (aI v :: st) h := ex_st cal (s := s_ild 4 15) rfl rfl
theorem u_R_madeBy_15 : ex cal k_R_madeBy 15 (aQ r :: ls) (st) h = ex cal k_R_madeBy 16 (aQ r :: ls) (aQ r :: st) h := ex_st cal (s := s_ald 0 16) rfl rfl
theorem u_R_madeBy_16 : ex cal k_R_madeBy 16 (ls) (aQ (some a) :: st) h = gO h a 10 (ex cal k_R_madeBy 19 (ls) (gf h a 1 :: st) h) := e_gf cal rfl
theorem u_R_madeBy_19 : ex cal k_R_madeBy 19 (x0 :: x1 :: x2 :: aI v :: ls) (st) h = ex cal k_R_madeBy 20 (x0 :: x1 :: x2 :: aI v :: ls) (aI v :: st) h := ex_st cal (s := s_ild 3 20) rfl rfl
theorem u_R_madeBy_20 : ex cal k_R_madeBy 20 (ls) (aI i :: aQ (some a) :: st) h = gA h a i (ex cal k_R_madeBy 21 (ls) (aI (ai h a (wr i)) :: st) h) := e_ia cal rfl
theorem u_R_madeBy_21 : ex cal k_R_madeBy 21 (ls) (aI j :: aI i :: st) h = if wr i < wr j then ex cal k_R_madeBy 24 (ls) (st) h else ex cal k_R_madeBy 60 (ls) (st) h := e_icge cal rfl
theorem u_R_madeBy_24 : ex cal k_R_madeBy 24 (x0 :: x1 :: aI v :: ls) (st) h = ex cal k_R_madeBy 25 (x0 :: x1 :: aI v :: ls) (aI v :: st) h := ex_st cal (s := s_ild 2 25) rfl rfl
theorem u_R_madeBy_25 : ex cal k_R_madeBy 25 (aQ r :: ls) (st) h = ex cal k_R_madeBy 26 (aQ r :: ls) (aQ r :: st) h := ex_st cal (s := s_ald 0 26) rfl rfl
theorem u_R_madeBy_26 : ex cal k_R_madeBy 26 (ls) (aQ (some a) :: st) h = gO h a 10 (ex cal k_R_madeBy 29 (ls) (gf h a 0 :: st) h) := e_gf cal rfl
theorem u_R_madeBy_29 : ex cal k_R_madeBy 29 (ls) (st) h = ex cal k_R_madeBy 32 (ls) (aI 540 :: st) h := e_push cal rfl
theorem u_R_madeBy_32 : ex cal k_R_madeBy 32 (x0 :: x1 :: x2 :: aI v :: ls) (st) h = ex cal k_R_madeBy 33 (x0 :: x1 :: x2 :: aI v :: ls) (aI v :: st) h := ex_st cal (s := s_ild 3 33) rfl rfl
theorem u_R_madeBy_33 : ex cal k_R_madeBy 33 (ls) (aI j :: aI i :: st) h = ex cal k_R_madeBy 34 (ls) (aI (i * j) :: st) h := e_bin cal rfl
theorem u_R_madeBy_34 : ex cal k_R_madeBy 34 (ls) (st) h = ex cal k_R_madeBy 36 (ls) (aI 27 :: st) h := e_push cal rfl
theorem u_R_madeBy_36 : ex cal k_R_madeBy 36 (x0 :: x1 :: x2 :: x3 :: aI v :: ls) (st) h = ex cal k_R_madeBy 38 (x0 :: x1 :: x2 :: x3 :: aI v :: ls) (aI v :: st) h := ex_st cal (s := s_ild 4 38) rfl rfl
theorem u_R_madeBy_38 : ex cal k_R_madeBy 38 (ls) (aI j :: aI i :: st) h = ex cal k_R_madeBy 39 (ls) (aI (i * j) :: st) h := e_bin cal rfl
theorem u_R_madeBy_39 : ex cal k_R_madeBy 39 (ls) (aI j :: aI i :: st) h = ex cal k_R_madeBy 40 (ls) (aI (i + j) :: st) h := e_bin cal rfl
theorem u_R_madeBy_40 : ex cal k_R_madeBy 40 (ls) (st) h = ex cal k_R_madeBy 41 (ls) (aI 1 :: st) h := e_push cal rfl
theorem u_R_madeBy_41 : ex cal k_R_madeBy 41 (ls) (aI j :: aI i :: st) h = ex cal k_R_madeBy 42 (ls) (aI (i + j) :: st) h := e_bin cal rfl
theorem u_R_madeBy_42 : ex cal k_R_madeBy 42 (ls) (aI i :: aQ (some a) :: st) h = gA h a i (ex cal k_R_madeBy 43 (ls) (aI (ai h a (wr i)) :: st) h) := e_ia cal rfl
theorem u_R_madeBy_43 : ex cal k_R_madeBy 43 (x0 :: aI v :: ls) (st) h = ex cal k_R_madeBy 44 (x0 :: aI v :: ls) (aI v :: st) h := ex_st cal (s := s_ild 1 44) rfl rfl
theorem u_R_madeBy_44 : ex cal k_R_madeBy 44 (ls) (aI j :: aI i :: st) h = if wr i = wr j then ex cal k_R_madeBy 47 (ls) (st) h else ex cal k_R_madeBy 51 (ls) (st) h := e_icne cal rfl
theorem u_R_madeBy_47 : ex cal k_R_madeBy 47 (ls) (st) h = ex cal k_R_madeBy 48 (ls) (aI 1 :: st) h := e_push cal rfl
theorem u_R_madeBy_48 : ex cal k_R_madeBy 48 (ls) (st) h = ex cal k_R_madeBy 52 (ls) (st) h := ex_st cal (s := s_go 52) rfl rfl
theorem u_R_madeBy_51 : ex cal k_R_madeBy 51 (ls) (st) h = ex cal k_R_madeBy 52 (ls) (aI 0 :: st) h := e_push cal rfl
theorem u_R_madeBy_52 : ex cal k_R_madeBy 52 (ls) (aI j :: aI i :: st) h = ex cal k_R_madeBy 53 (ls) (aI (i + j) :: st) h := e_bin cal rfl
theorem u_R_madeBy_53 (hx : aNl x1 = true) : ex cal k_R_madeBy 53 (x0 :: x1 :: y :: ls) (aI v :: st) h = ex cal k_R_madeBy 54 (x0 :: x1 :: aI v :: ls) (st) h := e_ist (ls := x0 :: x1 :: y :: ls) (k := 2) rfl hx (by simp only [List.length_cons]; omega)
theorem u_R_madeBy_54 (hx : aNl x3 = true) : ex cal k_R_madeBy 54 (x0 :: x1 :: x2 :: x3 :: aI v :: ls) (st) h = ex cal k_R_madeBy 57 (x0 :: x1 :: x2 :: x3 :: aI (v + 1) :: ls) (st) h := e_inc (ls := x0 :: x1 :: x2 :: x3 :: aI v :: ls) (k := 4) rfl rfl hx
theorem u_R_madeBy_57 : ex cal k_R_madeBy 57 (ls) (st) h = ex cal k_R_madeBy 13 (ls) (st) h := ex_st cal (s := s_go 13) rfl rfl
theorem u_R_madeBy_60 (hx : aNl x2 = true) : ex cal k_R_madeBy 60 (x0 :: x1 :: x2 :: aI v :: ls) (st) h = ex cal k_R_madeBy 63 (x0 :: x1 :: x2 :: aI (v + 1) :: ls) (st) h := e_inc (ls := x0 :: x1 :: x2 :: aI v :: ls) (k := 3) rfl rfl hx
theorem u_R_madeBy_63 : ex cal k_R_madeBy 63 (ls) (st) h = ex cal k_R_madeBy 4 (ls) (st) h := ex_st cal (s := s_go 4) rfl rfl
theorem u_R_madeBy_66 : ex cal k_R_madeBy 66 (x0 :: x1 :: aI v :: ls) (st) h = ex cal k_R_madeBy 67 (x0 :: x1 :: aI v :: ls) (aI v :: st) h := ex_st cal (s := s_ild 2 67) rfl rfl
theorem u_R_madeBy_67 : ex cal k_R_madeBy 67 (ls) ([aI v]) h = some (some (aI v), h) := e_ret1 cal rfl
theorem n_R_madeBy (d : Nat) : ev (d + 1) M_R_madeBy [aQ (some a), aI z0] h = ex (ev d) k_R_madeBy 0 [aQ (some a), aI z0, aU, aU, aU] [] h := rfl
theorem u_R_changeTold_0 : ex cal k_R_changeTold 0 (aQ r :: ls) (st) h = ex cal k_R_changeTold 1 (aQ r :: ls) (aQ r :: st) h := ex_st cal (s := s_ald 0 1) rfl rfl
theorem u_R_changeTold_1 : ex cal k_R_changeTold 1 (x0 :: aI v :: ls) (st) h = ex cal k_R_changeTold 2 (x0 :: aI v :: ls) (aI v :: st) h := ex_st cal (s := s_ild 1 2) rfl rfl
theorem u_R_changeTold_2 (hl : Nat.ble st.length 4 = true) : ex cal k_R_changeTold 2 (ls) (aI z0 :: aQ (some a) :: st) h = gO h a 10 (kk cal k_R_changeTold 5 ls st (cal M_R_isChange [aQ (some a), aI z0] h)) := e_callV cal (ci := 10) (as := [aI z0]) rfl (by decide) rfl (Nat.le_of_ble_eq_true hl)
theorem u_R_changeTold_5 : ex cal k_R_changeTold 5 (ls) (aI i :: st) h = if wr i = 0 then ex cal k_R_changeTold 8 (ls) (st) h else ex cal k_R_changeTold 10 (ls) (st) h := e_ifne cal rfl
theorem u_R_changeTold_8 : ex cal k_R_changeTold 8 (ls) (st) h = ex cal k_R_changeTold 9 (ls) (aI (-1) :: st) h := e_push cal rfl
theorem u_R_changeTold_9 : ex cal k_R_changeTold 9 (ls) ([aI v]) h = some (some (aI v), h) := e_ret1 cal rfl
theorem u_R_changeTold_10 : ex cal k_R_changeTold 10 (x0 :: x1 :: aI v :: ls) (st) h = ex cal k_R_changeTold 11 (x0 :: x1 :: aI v :: ls) (aI v :: st) h := ex_st cal (s := s_ild 2 11) rfl rfl
theorem u_R_changeTold_11 : ex cal k_R_changeTold 11 (ls) (aI i :: st) h = ex cal k_R_changeTold (swt [(0, 56), (1, 63), (2, 70), (3, 77), (4, 84), (5, 91), (6, 98), (7, 105)] 111 (wr i)) ls st h := e_sw cal rfl
theorem u_R_changeTold_56 : ex cal k_R_changeTold 56 (aQ r :: ls) (st) h = ex cal k_R_changeTold 57 (aQ r :: ls) (aQ r :: st) h := ex_st cal (s := s_ald 0 57) rfl rfl
theorem u_R_changeTold_57 : ex cal k_R_changeTold 57 (ls) (aQ (some a) :: st) h = gO h a 10 (ex cal k_R_changeTold 60 (ls) (gf h a 5 :: st) h) := e_gf cal rfl
theorem u_R_changeTold_60 : ex cal k_R_changeTold 60 (x0 :: aI v :: ls) (st) h = ex cal k_R_changeTold 61 (x0 :: aI v :: ls) (aI v :: st) h := ex_st cal (s := s_ild 1 61) rfl rfl
theorem u_R_changeTold_61 : ex cal k_R_changeTold 61 (ls) (aI i :: aQ (some a) :: st) h = gA h a i (ex cal k_R_changeTold 62 (ls) (aI (ai h a (wr i)) :: st) h) := e_ia cal rfl
theorem u_R_changeTold_62 : ex cal k_R_changeTold 62 (ls) ([aI v]) h = some (some (aI v), h) := e_ret1 cal rfl
theorem u_R_changeTold_63 : ex cal k_R_changeTold 63 (aQ r :: ls) (st) h = ex cal k_R_changeTold 64 (aQ r :: ls) (aQ r :: st) h := ex_st cal (s := s_ald 0 64) rfl rfl
theorem u_R_changeTold_64 : ex cal k_R_changeTold 64 (ls) (aQ (some a) :: st) h = gO h a 10 (ex cal k_R_changeTold 67 (ls) (gf h a 6 :: st) h) := e_gf cal rfl
theorem u_R_changeTold_67 : ex cal k_R_changeTold 67 (x0 :: aI v :: ls) (st) h = ex cal k_R_changeTold 68 (x0 :: aI v :: ls) (aI v :: st) h := ex_st cal (s := s_ild 1 68) rfl rfl
theorem u_R_changeTold_68 : ex cal k_R_changeTold 68 (ls) (aI i :: aQ (some a) :: st) h = gA h a i (ex cal k_R_changeTold 69 (ls) (aI (ai h a (wr i)) :: st) h) := e_ia cal rfl
theorem u_R_changeTold_69 : ex cal k_R_changeTold 69 (ls) ([aI v]) h = some (some (aI v), h) := e_ret1 cal rfl
theorem u_R_changeTold_70 : ex cal k_R_changeTold 70 (aQ r :: ls) (st) h = ex cal k_R_changeTold 71 (aQ r :: ls) (aQ r :: st) h := ex_st cal (s := s_ald 0 71) rfl rfl
theorem u_R_changeTold_71 : ex cal k_R_changeTold 71 (ls) (aQ (some a) :: st) h = gO h a 10 (ex cal k_R_changeTold 74 (ls) (gf h a 7 :: st) h) := e_gf cal rfl
theorem u_R_changeTold_74 : ex cal k_R_changeTold 74 (x0 :: aI v :: ls) (st) h = ex cal k_R_changeTold 75 (x0 :: aI v :: ls) (aI v :: st) h := ex_st cal (s := s_ild 1 75) rfl rfl
theorem u_R_changeTold_75 : ex cal k_R_changeTold 75 (ls) (aI i :: aQ (some a) :: st) h = gA h a i (ex cal k_R_changeTold 76 (ls) (aI (ai h a (wr i)) :: st) h) := e_ia cal rfl
theorem u_R_changeTold_76 : ex cal k_R_changeTold 76 (ls) ([aI v]) h = some (some (aI v), h) := e_ret1 cal rfl
theorem u_R_changeTold_77 : ex cal k_R_changeTold 77 (aQ r :: ls) (st) h = ex cal k_R_changeTold 78 (aQ r :: ls) (aQ r :: st) h := ex_st cal (s := s_ald 0 78) rfl rfl
theorem u_R_changeTold_78 : ex cal k_R_changeTold 78 (ls) (aQ (some a) :: st) h = gO h a 10 (ex cal k_R_changeTold 81 (ls) (gf h a 8 :: st) h) := e_gf cal rfl
theorem u_R_changeTold_81 : ex cal k_R_changeTold 81 (x0 :: aI v :: ls) (st) h = ex cal k_R_changeTold 82 (x0 :: aI v :: ls) (aI v :: st) h := ex_st cal (s := s_ild 1 82) rfl rfl
theorem u_R_changeTold_82 : ex cal k_R_changeTold 82 (ls) (aI i :: aQ (some a) :: st) h = gA h a i (ex cal k_R_changeTold 83 (ls) (aI (ai h a (wr i)) :: st) h) := e_ia cal rfl
theorem u_R_changeTold_83 : ex cal k_R_changeTold 83 (ls) ([aI v]) h = some (some (aI v), h) := e_ret1 cal rfl
theorem u_R_changeTold_84 : ex cal k_R_changeTold 84 (aQ r :: ls) (st) h = ex cal k_R_changeTold 85 (aQ r :: ls) (aQ r :: st) h := ex_st cal (s := s_ald 0 85) rfl rfl
theorem u_R_changeTold_85 : ex cal k_R_changeTold 85 (ls) (aQ (some a) :: st) h = gO h a 10 (ex cal k_R_changeTold 88 (ls) (gf h a 9 :: st) h) := e_gf cal rfl
theorem u_R_changeTold_88 : ex cal k_R_changeTold 88 (x0 :: aI v :: ls) (st) h = ex cal k_R_changeTold 89 (x0 :: aI v :: ls) (aI v :: st) h := ex_st cal (s := s_ild 1 89) rfl rfl
theorem u_R_changeTold_89 : ex cal k_R_changeTold 89 (ls) (aI i :: aQ (some a) :: st) h = gA h a i (ex cal k_R_changeTold 90 (ls) (aI (ai h a (wr i)) :: st) h) := e_ia cal rfl
theorem u_R_changeTold_90 : ex cal k_R_changeTold 90 (ls) ([aI v]) h = some (some (aI v), h) := e_ret1 cal rfl
theorem u_R_changeTold_91 : ex cal k_R_changeTold 91 (aQ r :: ls) (st) h = ex cal k_R_changeTold 92 (aQ r :: ls) (aQ r :: st) h := ex_st cal (s := s_ald 0 92) rfl rfl
theorem u_R_changeTold_92 : ex cal k_R_changeTold 92 (ls) (aQ (some a) :: st) h = gO h a 10 (ex cal k_R_changeTold 95 (ls) (gf h a 10 :: st) h) := e_gf cal rfl
theorem u_R_changeTold_95 : ex cal k_R_changeTold 95 (x0 :: aI v :: ls) (st) h = ex cal k_R_changeTold 96 (x0 :: aI v :: ls) (aI v :: st) h := ex_st cal (s := s_ild 1 96) rfl rfl
theorem u_R_changeTold_96 : ex cal k_R_changeTold 96 (ls) (aI i :: aQ (some a) :: st) h = gA h a i (ex cal k_R_changeTold 97 (ls) (aI (ai h a (wr i)) :: st) h) := e_ia cal rfl
theorem u_R_changeTold_97 : ex cal k_R_changeTold 97 (ls) ([aI v]) h = some (some (aI v), h) := e_ret1 cal rfl
theorem u_R_changeTold_98 : ex cal k_R_changeTold 98 (aQ r :: ls) (st) h = ex cal k_R_changeTold 99 (aQ r :: ls) (aQ r :: st) h := ex_st cal (s := s_ald 0 99) rfl rfl
theorem u_R_changeTold_99 : ex cal k_R_changeTold 99 (ls) (aQ (some a) :: st) h = gO h a 10 (ex cal k_R_changeTold 102 (ls) (gf h a 11 :: st) h) := e_gf cal rfl
theorem u_R_changeTold_102 : ex cal k_R_changeTold 102 (x0 :: aI v :: ls) (st) h = ex cal k_R_changeTold 103 (x0 :: aI v :: ls) (aI v :: st) h := ex_st cal (s := s_ild 1 103) rfl rfl
theorem u_R_changeTold_103 : ex cal k_R_changeTold 103 (ls) (aI i :: aQ (some a) :: st) h = gA h a i (ex cal k_R_changeTold 104 (ls) (aI (ai h a (wr i)) :: st) h) := e_ia cal rfl
theorem u_R_changeTold_104 : ex cal k_R_changeTold 104 (ls) ([aI v]) h = some (some (aI v), h) := e_ret1 cal rfl
theorem u_R_changeTold_105 : ex cal k_R_changeTold 105 (aQ r :: ls) (st) h = ex cal k_R_changeTold 106 (aQ r :: ls) (aQ r :: st) h := ex_st cal (s := s_ald 0 106) rfl rfl
theorem u_R_changeTold_106 : ex cal k_R_changeTold 106 (x0 :: aI v :: ls) (st) h = ex cal k_R_changeTold 107 (x0 :: aI v :: ls) (aI v :: st) h := ex_st cal (s := s_ild 1 107) rfl rfl
theorem u_R_changeTold_107 (hl : Nat.ble st.length 4 = true) : ex cal k_R_changeTold 107 (ls) (aI z0 :: aQ (some a) :: st) h = gO h a 10 (kk cal k_R_changeTold 110 ls st (cal M_R_madeBy [aQ (some a), aI z0] h)) := e_callV cal (ci := 10) (as := [aI z0]) rfl (by decide) rfl (Nat.le_of_ble_eq_true hl)
theorem u_R_changeTold_110 : ex cal k_R_changeTold 110 (ls) ([aI v]) h = some (some (aI v), h) := e_ret1 cal rfl
theorem u_R_changeTold_111 : ex cal k_R_changeTold 111 (ls) (st) h = ex cal k_R_changeTold 112 (ls) (aI (-1) :: st) h := e_push cal rfl
theorem u_R_changeTold_112 : ex cal k_R_changeTold 112 (ls) ([aI v]) h = some (some (aI v), h) := e_ret1 cal rfl
theorem n_R_changeTold (d : Nat) : ev (d + 1) M_R_changeTold [aQ (some a), aI z0, aI z1] h = ex (ev d) k_R_changeTold 0 [aQ (some a), aI z0, aI z1] [] h := rfl
theorem u_R_pointsFrom_0 : ex cal k_R_pointsFrom 0 (ls) (st) h = ex cal k_R_pointsFrom 3 (ls) (aI 540 :: st) h := e_push cal rfl
theorem u_R_pointsFrom_3 : ex cal k_R_pointsFrom 3 (x0 :: x1 :: aI v :: ls) (st) h = ex cal k_R_pointsFrom 4 (x0 :: x1 :: aI v :: ls) (aI v :: st) h := ex_st cal (s := s_ild 2 4) rfl rfl
theorem u_R_pointsFrom_4 : ex cal k_R_pointsFrom 4 (ls) (aI j :: aI i :: st) h = ex cal k_R_pointsFrom 5 (ls) (aI (i * j) :: st) h := e_bin cal rfl
theorem u_R_pointsFrom_5 : ex cal k_R_pointsFrom 5 (ls) (st) h = ex cal k_R_pointsFrom 7 (ls) (aI 27 :: st) h := e_push cal rfl
theorem u_R_pointsFrom_7 : ex cal k_R_pointsFrom 7 (x0 :: x1 :: x2 :: aI v :: ls) (st) h = ex cal k_R_pointsFrom 8 (x0 :: x1 :: x2 :: aI v :: ls) (aI v :: st) h := ex_st cal (s := s_ild 3 8) rfl rfl
theorem u_R_pointsFrom_8 : ex cal k_R_pointsFrom 8 (ls) (aI j :: aI i :: st) h = ex cal k_R_pointsFrom 9 (ls) (aI (i * j) :: st) h := e_bin cal rfl
theorem u_R_pointsFrom_9 : ex cal k_R_pointsFrom 9 (ls) (aI j :: aI i :: st) h = ex cal k_R_pointsFrom 10 (ls) (aI (i + j) :: st) h := e_bin cal rfl
theorem u_R_pointsFrom_10 (hx : aNl x4 = true) : ex cal k_R_pointsFrom 10 (x0 :: x1 :: x2 :: x3 :: x4 :: y :: ls) (aI v :: st) h = ex cal k_R_pointsFrom 12 (x0 :: x1 :: x2 :: x3 :: x4 :: aI v :: ls) (st) h := e_ist (ls := x0 :: x1 :: x2 :: x3 :: x4 :: y :: ls) (k := 5) rfl hx (by simp only [List.length_cons]; omega)
theorem u_R_pointsFrom_12 : ex cal k_R_pointsFrom 12 (ls) (st) h = ex cal k_R_pointsFrom 13 (ls) (aI 0 :: st) h := e_push cal rfl
theorem u_R_pointsFrom_13 (hx : aNl x5 = true) : ex cal k_R_pointsFrom 13 (x0 :: x1 :: x2 :: x3 :: x4 :: x5 :: y :: ls) (aI v :: st) h = ex cal k_R_pointsFrom 15 (x0 :: x1 :: x2 :: x3 :: x4 :: x5 :: aI v :: ls) (st) h := e_ist (ls := x0 :: x1 :: x2 :: x3 :: x4 :: x5 :: y :: ls) (k := 6) rfl hx (by simp only [List.length_cons]; omega)
theorem u_R_pointsFrom_15 : ex cal k_R_pointsFrom 15 (x0 :: x1 :: x2 :: x3 :: aI v :: ls) (st) h = ex cal k_R_pointsFrom 17 (x0 :: x1 :: x2 :: x3 :: aI v :: ls) (aI v :: st) h := ex_st cal (s := s_ild 4 17) rfl rfl
theorem u_R_pointsFrom_17 (hx : aNl x6 = true) : ex cal k_R_pointsFrom 17 (x0 :: x1 :: x2 :: x3 :: x4 :: x5 :: x6 :: y :: ls) (aI v :: st) h = ex cal k_R_pointsFrom 19 (x0 :: x1 :: x2 :: x3 :: x4 :: x5 :: x6 :: aI v :: ls) (st) h := e_ist (ls := x0 :: x1 :: x2 :: x3 :: x4 :: x5 :: x6 :: y :: ls) (k := 7) rfl hx (by simp only [List.length_cons]; omega)
theorem u_R_pointsFrom_19 : ex cal k_R_pointsFrom 19 (x0 :: x1 :: x2 :: x3 :: x4 :: x5 :: x6 :: aI v :: ls) (st) h = ex cal k_R_pointsFrom 21 (x0 :: x1 :: x2 :: x3 :: x4 :: x5 :: x6 :: aI v :: ls) (aI v :: st) h := ex_st cal (s := s_ild 7 21) rfl rfl
theorem u_R_pointsFrom_21 : ex cal k_R_pointsFrom 21 (aQ r :: ls) (st) h = ex cal k_R_pointsFrom 22 (aQ r :: ls) (aQ r :: st) h := ex_st cal (s := s_ald 0 22) rfl rfl
theorem u_R_pointsFrom_22 : ex cal k_R_pointsFrom 22 (ls) (aQ (some a) :: st) h = gO h a 10 (ex cal k_R_pointsFrom 25 (ls) (gf h a 0 :: st) h) := e_gf cal rfl
theorem u_R_pointsFrom_25 : ex cal k_R_pointsFrom 25 (x0 :: x1 :: x2 :: x3 :: x4 :: aI v :: ls) (st) h = ex cal k_R_pointsFrom 27 (x0 :: x1 :: x2 :: x3 :: x4 :: aI v :: ls) (aI v :: st) h := ex_st cal (s := s_ild 5 27) rfl rfl
theorem u_R_pointsFrom_27 : ex cal k_R_pointsFrom 27 (ls) (st) h = ex cal k_R_pointsFrom 28 (ls) (aI 2 :: st) h := e_push cal rfl
theorem u_R_pointsFrom_28 : ex cal k_R_pointsFrom 28 (ls) (aI j :: aI i :: st) h = ex cal k_R_pointsFrom 29 (ls) (aI (i + j) :: st) h := e_bin cal rfl
theorem u_R_pointsFrom_29 : ex cal k_R_pointsFrom 29 (ls) (aI i :: aQ (some a) :: st) h = gA h a i (ex cal k_R_pointsFrom 30 (ls) (aI (ai h a (wr i)) :: st) h) := e_ia cal rfl
theorem u_R_pointsFrom_30 : ex cal k_R_pointsFrom 30 (ls) (aI j :: aI i :: st) h = if wr i < wr j then ex cal k_R_pointsFrom 33 (ls) (st) h else ex cal k_R_pointsFrom 108 (ls) (st) h := e_icge cal rfl
theorem u_R_pointsFrom_33 : ex cal k_R_pointsFrom 33 (x0 :: x1 :: x2 :: x3 :: x4 :: aI v :: ls) (st) h = ex cal k_R_pointsFrom 35 (x0 :: x1 :: x2 :: x3 :: x4 :: aI v :: ls) (aI v :: st) h := ex_st cal (s := s_ild 5 35) rfl rfl
theorem u_R_pointsFrom_35 : ex cal k_R_pointsFrom 35 (ls) (st) h = ex cal k_R_pointsFrom 36 (ls) (aI 3 :: st) h := e_push cal rfl
theorem u_R_pointsFrom_36 : ex cal k_R_pointsFrom 36 (ls) (aI j :: aI i :: st) h = ex cal k_R_pointsFrom 37 (ls) (aI (i + j) :: st) h := e_bin cal rfl
theorem u_R_pointsFrom_37 : ex cal k_R_pointsFrom 37 (ls) (st) h = ex cal k_R_pointsFrom 38 (ls) (aI 3 :: st) h := e_push cal rfl
theorem u_R_pointsFrom_38 : ex cal k_R_pointsFrom 38 (x0 :: x1 :: x2 :: x3 :: x4 :: x5 :: x6 :: aI v :: ls) (st) h = ex cal k_R_pointsFrom 40 (x0 :: x1 :: x2 :: x3 :: x4 :: x5 :: x6 :: aI v :: ls) (aI v :: st) h := ex_st cal (s := s_ild 7 40) rfl rfl
theorem u_R_pointsFrom_40 : ex cal k_R_pointsFrom 40 (ls) (aI j :: aI i :: st) h = ex cal k_R_pointsFrom 41 (ls) (aI (i * j) :: st) h := e_bin cal rfl
theorem u_R_pointsFrom_41 : ex cal k_R_pointsFrom 41 (ls) (aI j :: aI i :: st) h = ex cal k_R_pointsFrom 42 (ls) (aI (i + j) :: st) h := e_bin cal rfl
theorem u_R_pointsFrom_42 (hx : aNl x7 = true) : ex cal k_R_pointsFrom 42 (x0 :: x1 :: x2 :: x3 :: x4 :: x5 :: x6 :: x7 :: y :: ls) (aI v :: st) h = ex cal k_R_pointsFrom 44 (x0 :: x1 :: x2 :: x3 :: x4 :: x5 :: x6 :: x7 :: aI v :: ls) (st) h := e_ist (ls := x0 :: x1 :: x2 :: x3 :: x4 :: x5 :: x6 :: x7 :: y :: ls) (k := 8) rfl hx (by simp only [List.length_cons]; omega)
theorem u_R_pointsFrom_44 : ex cal k_R_pointsFrom 44 (aQ r :: ls) (st) h = ex cal k_R_pointsFrom 45 (aQ r :: ls) (aQ r :: st) h := ex_st cal (s := s_ald 0 45) rfl rfl
theorem u_R_pointsFrom_45 : ex cal k_R_pointsFrom 45 (ls) (aQ (some a) :: st) h = gO h a 10 (ex cal k_R_pointsFrom 48 (ls) (gf h a 0 :: st) h) := e_gf cal rfl
theorem u_R_pointsFrom_48 : ex cal k_R_pointsFrom 48 (x0 :: x1 :: x2 :: x3 :: x4 :: x5 :: x6 :: x7 :: aI v :: ls) (st) h = ex cal k_R_pointsFrom 50 (x0 :: x1 :: x2 :: x3 :: x4 :: x5 :: x6 :: x7 :: aI v :: ls) (aI v :: st) h := ex_st cal (s := s_ild 8 50) rfl rfl
theorem u_R_pointsFrom_50 : ex cal k_R_pointsFrom 50 (ls) (st) h = ex cal k_R_pointsFrom 51 (ls) (aI 2 :: st) h := e_push cal rfl
theorem u_R_pointsFrom_51 : ex cal k_R_pointsFrom 51 (ls) (aI j :: aI i :: st) h = ex cal k_R_pointsFrom 52 (ls) (aI (i + j) :: st) h := e_bin cal rfl
theorem u_R_pointsFrom_52 : ex cal k_R_pointsFrom 52 (ls) (aI i :: aQ (some a) :: st) h = gA h a i (ex cal k_R_pointsFrom 53 (ls) (aI (ai h a (wr i)) :: st) h) := e_ia cal rfl
theorem u_R_pointsFrom_53 : ex cal k_R_pointsFrom 53 (aQ r :: ls) (st) h = ex cal k_R_pointsFrom 54 (aQ r :: ls) (aQ r :: st) h := ex_st cal (s := s_ald 0 54) rfl rfl
theorem u_R_pointsFrom_54 : ex cal k_R_pointsFrom 54 (ls) (aQ (some a) :: st) h = gO h a 10 (ex cal k_R_pointsFrom 57 (ls) (gf h a 14 :: st) h) := e_gf cal rfl
theorem u_R_pointsFrom_57 : ex cal k_R_pointsFrom 57 (ls) (st) h = ex cal k_R_pointsFrom 58 (ls) (aI 4 :: st) h := e_push cal rfl
theorem u_R_pointsFrom_58 : ex cal k_R_pointsFrom 58 (ls) (aI i :: aQ (some a) :: st) h = gA h a i (ex cal k_R_pointsFrom 59 (ls) (aI (ai h a (wr i)) :: st) h) := e_ia cal rfl
theorem u_R_pointsFrom_59 : ex cal k_R_pointsFrom 59 (aQ r :: ls) (st) h = ex cal k_R_pointsFrom 60 (aQ r :: ls) (aQ r :: st) h := ex_st cal (s := s_ald 0 60) rfl rfl
theorem u_R_pointsFrom_60 : ex cal k_R_pointsFrom 60 (ls) (aQ (some a) :: st) h = gO h a 10 (ex cal k_R_pointsFrom 63 (ls) (gf h a 0 :: st) h) := e_gf cal rfl
theorem u_R_pointsFrom_63 : ex cal k_R_pointsFrom 63 (x0 :: x1 :: x2 :: x3 :: x4 :: x5 :: x6 :: x7 :: aI v :: ls) (st) h = ex cal k_R_pointsFrom 65 (x0 :: x1 :: x2 :: x3 :: x4 :: x5 :: x6 :: x7 :: aI v :: ls) (aI v :: st) h := ex_st cal (s := s_ild 8 65) rfl rfl
theorem u_R_pointsFrom_65 : ex cal k_R_pointsFrom 65 (ls) (st) h = ex cal k_R_pointsFrom 66 (ls) (aI 1 :: st) h := e_push cal rfl
theorem u_R_pointsFrom_66 : ex cal k_R_pointsFrom 66 (ls) (aI j :: aI i :: st) h = ex cal k_R_pointsFrom 67 (ls) (aI (i + j) :: st) h := e_bin cal rfl
theorem u_R_pointsFrom_67 : ex cal k_R_pointsFrom 67 (ls) (aI i :: aQ (some a) :: st) h = gA h a i (ex cal k_R_pointsFrom 68 (ls) (aI (ai h a (wr i)) :: st) h) := e_ia cal rfl
theorem u_R_pointsFrom_68 : ex cal k_R_pointsFrom 68 (ls) (aI j :: aI i :: st) h = ex cal k_R_pointsFrom 69 (ls) (aI (i - j) :: st) h := e_bin cal rfl
theorem u_R_pointsFrom_69 : ex cal k_R_pointsFrom 69 (ls) (st) h = ex cal k_R_pointsFrom 71 (ls) (aI 10 :: st) h := e_push cal rfl
theorem u_R_pointsFrom_71 (h0 : j ≠ 0) (h1 : -2147483648 ≤ j) (h2 : j < 2147483648) : ex cal k_R_pointsFrom 71 (ls) (aI j :: aI i :: st) h = ex cal k_R_pointsFrom 72 (ls) (aI ((wr i).tdiv j) :: st) h := e_div2 rfl h0 h1 h2
theorem u_R_pointsFrom_72 : ex cal k_R_pointsFrom 72 (ls) (aI j :: aI i :: st) h = ex cal k_R_pointsFrom 73 (ls) (aI (i - j) :: st) h := e_bin cal rfl
theorem u_R_pointsFrom_73 (hx : aNl x8 = true) : ex cal k_R_pointsFrom 73 (x0 :: x1 :: x2 :: x3 :: x4 :: x5 :: x6 :: x7 :: x8 :: y :: ls) (aI v :: st) h = ex cal k_R_pointsFrom 75 (x0 :: x1 :: x2 :: x3 :: x4 :: x5 :: x6 :: x7 :: x8 :: aI v :: ls) (st) h := e_ist (ls := x0 :: x1 :: x2 :: x3 :: x4 :: x5 :: x6 :: x7 :: x8 :: y :: ls) (k := 9) rfl hx (by simp only [List.length_cons]; omega)
theorem u_R_pointsFrom_75 : ex cal k_R_pointsFrom 75 (x0 :: x1 :: x2 :: x3 :: x4 :: x5 :: aI v :: ls) (st) h = ex cal k_R_pointsFrom 77 (x0 :: x1 :: x2 :: x3 :: x4 :: x5 :: aI v :: ls) (aI v :: st) h := ex_st cal (s := s_ild 6 77) rfl rfl
theorem u_R_pointsFrom_77 : ex cal k_R_pointsFrom 77 (aQ r :: ls) (st) h = ex cal k_R_pointsFrom 78 (aQ r :: ls) (aQ r :: st) h := ex_st cal (s := s_ald 0 78) rfl rfl
theorem u_R_pointsFrom_78 : ex cal k_R_pointsFrom 78 (ls) (aQ (some a) :: st) h = gO h a 10 (ex cal k_R_pointsFrom 81 (ls) (gf h a 0 :: st) h) := e_gf cal rfl
theorem u_R_pointsFrom_81 : ex cal k_R_pointsFrom 81 (x0 :: x1 :: x2 :: x3 :: x4 :: x5 :: x6 :: x7 :: aI v :: ls) (st) h = ex cal k_R_pointsFrom 83 (x0 :: x1 :: x2 :: x3 :: x4 :: x5 :: x6 :: x7 :: aI v :: ls) (aI v :: st) h := ex_st cal (s := s_ild 8 83) rfl rfl
theorem u_R_pointsFrom_83 : ex cal k_R_pointsFrom 83 (ls) (aI i :: aQ (some a) :: st) h = gA h a i (ex cal k_R_pointsFrom 84 (ls) (aI (ai h a (wr i)) :: st) h) := e_ia cal rfl
theorem u_R_pointsFrom_84 : ex cal k_R_pointsFrom 84 (x0 :: aI v :: ls) (st) h = ex cal k_R_pointsFrom 85 (x0 :: aI v :: ls) (aI v :: st) h := ex_st cal (s := s_ild 1 85) rfl rfl
theorem u_R_pointsFrom_85 : ex cal k_R_pointsFrom 85 (ls) (aI j :: aI i :: st) h = if wr i = wr j then ex cal k_R_pointsFrom 88 (ls) (st) h else ex cal k_R_pointsFrom 98 (ls) (st) h := e_icne cal rfl
theorem u_R_pointsFrom_88 : ex cal k_R_pointsFrom 88 (x0 :: x1 :: x2 :: x3 :: x4 :: x5 :: x6 :: x7 :: x8 :: aI v :: ls) (st) h = ex cal k_R_pointsFrom 90 (x0 :: x1 :: x2 :: x3 :: x4 :: x5 :: x6 :: x7 :: x8 :: aI v :: ls) (aI v :: st) h := ex_st cal (s := s_ild 9 90) rfl rfl
theorem u_R_pointsFrom_90 : ex cal k_R_pointsFrom 90 (ls) (aI i :: st) h = if 0 < wr i then ex cal k_R_pointsFrom 93 (ls) (st) h else ex cal k_R_pointsFrom 98 (ls) (st) h := e_ifle cal rfl
theorem u_R_pointsFrom_93 : ex cal k_R_pointsFrom 93 (x0 :: x1 :: x2 :: x3 :: x4 :: x5 :: x6 :: x7 :: x8 :: aI v :: ls) (st) h = ex cal k_R_pointsFrom 95 (x0 :: x1 :: x2 :: x3 :: x4 :: x5 :: x6 :: x7 :: x8 :: aI v :: ls) (aI v :: st) h := ex_st cal (s := s_ild 9 95) rfl rfl
theorem u_R_pointsFrom_95 : ex cal k_R_pointsFrom 95 (ls) (st) h = ex cal k_R_pointsFrom 99 (ls) (st) h := ex_st cal (s := s_go 99) rfl rfl
theorem u_R_pointsFrom_98 : ex cal k_R_pointsFrom 98 (ls) (st) h = ex cal k_R_pointsFrom 99 (ls) (aI 0 :: st) h := e_push cal rfl
theorem u_R_pointsFrom_99 : ex cal k_R_pointsFrom 99 (ls) (aI j :: aI i :: st) h = ex cal k_R_pointsFrom 100 (ls) (aI (i + j) :: st) h := e_bin cal rfl
theorem u_R_pointsFrom_100 (hx : aNl x5 = true) : ex cal k_R_pointsFrom 100 (x0 :: x1 :: x2 :: x3 :: x4 :: x5 :: y :: ls) (aI v :: st) h = ex cal k_R_pointsFrom 102 (x0 :: x1 :: x2 :: x3 :: x4 :: x5 :: aI v :: ls) (st) h := e_ist (ls := x0 :: x1 :: x2 :: x3 :: x4 :: x5 :: y :: ls) (k := 6) rfl hx (by simp only [List.length_cons]; omega)
theorem u_R_pointsFrom_102 (hx : aNl x6 = true) : ex cal k_R_pointsFrom 102 (x0 :: x1 :: x2 :: x3 :: x4 :: x5 :: x6 :: aI v :: ls) (st) h = ex cal k_R_pointsFrom 105 (x0 :: x1 :: x2 :: x3 :: x4 :: x5 :: x6 :: aI (v + 1) :: ls) (st) h := e_inc (ls := x0 :: x1 :: x2 :: x3 :: x4 :: x5 :: x6 :: aI v :: ls) (k := 7) rfl rfl hx
theorem u_R_pointsFrom_105 : ex cal k_R_pointsFrom 105 (ls) (st) h = ex cal k_R_pointsFrom 19 (ls) (st) h := ex_st cal (s := s_go 19) rfl rfl
theorem u_R_pointsFrom_108 : ex cal k_R_pointsFrom 108 (x0 :: x1 :: x2 :: x3 :: x4 :: x5 :: aI v :: ls) (st) h = ex cal k_R_pointsFrom 110 (x0 :: x1 :: x2 :: x3 :: x4 :: x5 :: aI v :: ls) (aI v :: st) h := ex_st cal (s := s_ild 6 110) rfl rfl
theorem u_R_pointsFrom_110 : ex cal k_R_pointsFrom 110 (ls) ([aI v]) h = some (some (aI v), h) := e_ret1 cal rfl
theorem n_R_pointsFrom (d : Nat) : ev (d + 1) M_R_pointsFrom [aQ (some a), aI z0, aI z1, aI z2, aI z3] h = ex (ev d) k_R_pointsFrom 0 [aQ (some a), aI z0, aI z1, aI z2, aI z3, aU, aU, aU, aU, aU] [] h := rfl
theorem u_R_points_0 : ex cal k_R_points 0 (aQ r :: ls) (st) h = ex cal k_R_points 1 (aQ r :: ls) (aQ r :: st) h := ex_st cal (s := s_ald 0 1) rfl rfl
theorem u_R_points_1 : ex cal k_R_points 1 (x0 :: aI v :: ls) (st) h = ex cal k_R_points 2 (x0 :: aI v :: ls) (aI v :: st) h := ex_st cal (s := s_ild 1 2) rfl rfl
theorem u_R_points_2 (hl : Nat.ble st.length 4 = true) : ex cal k_R_points 2 (ls) (aI z0 :: aQ (some a) :: st) h = gO h a 10 (kk cal k_R_points 5 ls st (cal M_R_isPerson [aQ (some a), aI z0] h)) := e_callV cal (ci := 10) (as := [aI z0]) rfl (by decide) rfl (Nat.le_of_ble_eq_true hl)
theorem u_R_points_5 : ex cal k_R_points 5 (ls) (aI i :: st) h = if wr i = 0 then ex cal k_R_points 28 (ls) (st) h else ex cal k_R_points 8 (ls) (st) h := e_ifeq cal rfl
theorem u_R_points_8 : ex cal k_R_points 8 (aQ r :: ls) (st) h = ex cal k_R_points 9 (aQ r :: ls) (aQ r :: st) h := ex_st cal (s := s_ald 0 9) rfl rfl
theorem u_R_points_9 : ex cal k_R_points 9 (x0 :: x1 :: aI v :: ls) (st) h = ex cal k_R_points 10 (x0 :: x1 :: aI v :: ls) (aI v :: st) h := ex_st cal (s := s_ild 2 10) rfl rfl
theorem u_R_points_10 : ex cal k_R_points 10 (x0 :: x1 :: x2 :: aI v :: ls) (st) h = ex cal k_R_points 11 (x0 :: x1 :: x2 :: aI v :: ls) (aI v :: st) h := ex_st cal (s := s_ild 3 11) rfl rfl
theorem u_R_points_11 (hl : Nat.ble st.length 4 = true) : ex cal k_R_points 11 (ls) (aI z1 :: aI z0 :: aQ (some a) :: st) h = gO h a 10 (kk cal k_R_points 14 ls st (cal M_R_isLine [aQ (some a), aI z0, aI z1] h)) := e_callV cal (ci := 10) (as := [aI z1, aI z0]) rfl (by decide) rfl (Nat.le_of_ble_eq_true hl)
theorem u_R_points_14 : ex cal k_R_points 14 (ls) (aI i :: st) h = if wr i = 0 then ex cal k_R_points 28 (ls) (st) h else ex cal k_R_points 17 (ls) (st) h := e_ifeq cal rfl
theorem u_R_points_17 : ex cal k_R_points 17 (aQ r :: ls) (st) h = ex cal k_R_points 18 (aQ r :: ls) (aQ r :: st) h := ex_st cal (s := s_ald 0 18) rfl rfl
theorem u_R_points_18 : ex cal k_R_points 18 (x0 :: aI v :: ls) (st) h = ex cal k_R_points 19 (x0 :: aI v :: ls) (aI v :: st) h := ex_st cal (s := s_ild 1 19) rfl rfl
theorem u_R_points_19 : ex cal k_R_points 19 (x0 :: x1 :: aI v :: ls) (st) h = ex cal k_R_points 20 (x0 :: x1 :: aI v :: ls) (aI v :: st) h := ex_st cal (s := s_ild 2 20) rfl rfl
theorem u_R_points_20 : ex cal k_R_points 20 (x0 :: x1 :: x2 :: aI v :: ls) (st) h = ex cal k_R_points 21 (x0 :: x1 :: x2 :: aI v :: ls) (aI v :: st) h := ex_st cal (s := s_ild 3 21) rfl rfl
theorem u_R_points_21 : ex cal k_R_points 21 (ls) (st) h = ex cal k_R_points 22 (ls) (aI 0 :: st) h := e_push cal rfl
theorem u_R_points_22 (hl : Nat.ble st.length 4 = true) : ex cal k_R_points 22 (ls) (aI z3 :: aI z2 :: aI z1 :: aI z0 :: aQ (some a) :: st) h = gO h a 10 (kk cal k_R_points 25 ls st (cal M_R_pointsFrom [aQ (some a), aI z0, aI z1, aI z2, aI z3] h)) := e_callV cal (ci := 10) (as := [aI z3, aI z2, aI z1, aI z0]) rfl (by decide) rfl (Nat.le_of_ble_eq_true hl)
theorem u_R_points_25 : ex cal k_R_points 25 (ls) (st) h = ex cal k_R_points 29 (ls) (st) h := ex_st cal (s := s_go 29) rfl rfl
theorem u_R_points_28 : ex cal k_R_points 28 (ls) (st) h = ex cal k_R_points 29 (ls) (aI (-1) :: st) h := e_push cal rfl
theorem u_R_points_29 : ex cal k_R_points 29 (ls) ([aI v]) h = some (some (aI v), h) := e_ret1 cal rfl
theorem n_R_points (d : Nat) : ev (d + 1) M_R_points [aQ (some a), aI z0, aI z1, aI z2] h = ex (ev d) k_R_points 0 [aQ (some a), aI z0, aI z1, aI z2] [] h := rfl
theorem u_R_known_0 : ex cal k_R_known 0 (ls) (st) h = ex cal k_R_known 1 (ls) (aI 0 :: st) h := e_push cal rfl
theorem u_R_known_1 (hx : aNl x2 = true) : ex cal k_R_known 1 (x0 :: x1 :: x2 :: y :: ls) (aI v :: st) h = ex cal k_R_known 2 (x0 :: x1 :: x2 :: aI v :: ls) (st) h := e_ist (ls := x0 :: x1 :: x2 :: y :: ls) (k := 3) rfl hx (by simp only [List.length_cons]; omega)
theorem u_R_known_2 : ex cal k_R_known 2 (ls) (st) h = ex cal k_R_known 3 (ls) (aI 0 :: st) h := e_push cal rfl
theorem u_R_known_3 (hx : aNl x3 = true) : ex cal k_R_known 3 (x0 :: x1 :: x2 :: x3 :: y :: ls) (aI v :: st) h = ex cal k_R_known 5 (x0 :: x1 :: x2 :: x3 :: aI v :: ls) (st) h := e_ist (ls := x0 :: x1 :: x2 :: x3 :: y :: ls) (k := 4) rfl hx (by simp only [List.length_cons]; omega)
theorem u_R_known_5 : ex cal k_R_known 5 (x0 :: x1 :: x2 :: x3 :: aI v :: ls) (st) h = ex cal k_R_known 7 (x0 :: x1 :: x2 :: x3 :: aI v :: ls) (aI v :: st) h := ex_st cal (s := s_ild 4 7) rfl rfl
theorem u_R_known_7 : ex cal k_R_known 7 (aQ r :: ls) (st) h = ex cal k_R_known 8 (aQ r :: ls) (aQ r :: st) h := ex_st cal (s := s_ald 0 8) rfl rfl
theorem u_R_known_8 : ex cal k_R_known 8 (ls) (aQ (some a) :: st) h = gO h a 10 (ex cal k_R_known 11 (ls) (gf h a 1 :: st) h) := e_gf cal rfl
theorem u_R_known_11 : ex cal k_R_known 11 (x0 :: x1 :: aI v :: ls) (st) h = ex cal k_R_known 12 (x0 :: x1 :: aI v :: ls) (aI v :: st) h := ex_st cal (s := s_ild 2 12) rfl rfl
theorem u_R_known_12 : ex cal k_R_known 12 (ls) (aI i :: aQ (some a) :: st) h = gA h a i (ex cal k_R_known 13 (ls) (aI (ai h a (wr i)) :: st) h) := e_ia cal rfl
theorem u_R_known_13 : ex cal k_R_known 13 (ls) (aI j :: aI i :: st) h = if wr i < wr j then ex cal k_R_known 16 (ls) (st) h else ex cal k_R_known 43 (ls) (st) h := e_icge cal rfl
theorem u_R_known_16 : ex cal k_R_known 16 (x0 :: x1 :: x2 :: aI v :: ls) (st) h = ex cal k_R_known 17 (x0 :: x1 :: x2 :: aI v :: ls) (aI v :: st) h := ex_st cal (s := s_ild 3 17) rfl rfl
theorem u_R_known_17 : ex cal k_R_known 17 (aQ r :: ls) (st) h = ex cal k_R_known 18 (aQ r :: ls) (aQ r :: st) h := ex_st cal (s := s_ald 0 18) rfl rfl
theorem u_R_known_18 : ex cal k_R_known 18 (x0 :: aI v :: ls) (st) h = ex cal k_R_known 19 (x0 :: aI v :: ls) (aI v :: st) h := ex_st cal (s := s_ild 1 19) rfl rfl
theorem u_R_known_19 : ex cal k_R_known 19 (x0 :: x1 :: aI v :: ls) (st) h = ex cal k_R_known 20 (x0 :: x1 :: aI v :: ls) (aI v :: st) h := ex_st cal (s := s_ild 2 20) rfl rfl
theorem u_R_known_20 : ex cal k_R_known 20 (x0 :: x1 :: x2 :: x3 :: aI v :: ls) (st) h = ex cal k_R_known 22 (x0 :: x1 :: x2 :: x3 :: aI v :: ls) (aI v :: st) h := ex_st cal (s := s_ild 4 22) rfl rfl
theorem u_R_known_22 : ex cal k_R_known 22 (ls) (st) h = ex cal k_R_known 23 (ls) (aI 0 :: st) h := e_push cal rfl
theorem u_R_known_23 (hl : Nat.ble st.length 4 = true) : ex cal k_R_known 23 (ls) (aI z3 :: aI z2 :: aI z1 :: aI z0 :: aQ (some a) :: st) h = gO h a 10 (kk cal k_R_known 26 ls st (cal M_R_pointsFrom [aQ (some a), aI z0, aI z1, aI z2, aI z3] h)) := e_callV cal (ci := 10) (as := [aI z3, aI z2, aI z1, aI z0]) rfl (by decide) rfl (Nat.le_of_ble_eq_true hl)
theorem u_R_known_26 : ex cal k_R_known 26 (ls) (st) h = ex cal k_R_known 27 (ls) (aI 5 :: st) h := e_push cal rfl
theorem u_R_known_27 : ex cal k_R_known 27 (ls) (aI j :: aI i :: st) h = if wr i < wr j then ex cal k_R_known 34 (ls) (st) h else ex cal k_R_known 30 (ls) (st) h := e_iclt cal rfl
theorem u_R_known_30 : ex cal k_R_known 30 (ls) (st) h = ex cal k_R_known 31 (ls) (aI 1 :: st) h := e_push cal rfl
theorem u_R_known_31 : ex cal k_R_known 31 (ls) (st) h = ex cal k_R_known 35 (ls) (st) h := ex_st cal (s := s_go 35) rfl rfl
theorem u_R_known_34 : ex cal k_R_known 34 (ls) (st) h = ex cal k_R_known 35 (ls) (aI 0 :: st) h := e_push cal rfl
theorem u_R_known_35 : ex cal k_R_known 35 (ls) (aI j :: aI i :: st) h = ex cal k_R_known 36 (ls) (aI (i + j) :: st) h := e_bin cal rfl
theorem u_R_known_36 (hx : aNl x2 = true) : ex cal k_R_known 36 (x0 :: x1 :: x2 :: y :: ls) (aI v :: st) h = ex cal k_R_known 37 (x0 :: x1 :: x2 :: aI v :: ls) (st) h := e_ist (ls := x0 :: x1 :: x2 :: y :: ls) (k := 3) rfl hx (by simp only [List.length_cons]; omega)
theorem u_R_known_37 (hx : aNl x3 = true) : ex cal k_R_known 37 (x0 :: x1 :: x2 :: x3 :: aI v :: ls) (st) h = ex cal k_R_known 40 (x0 :: x1 :: x2 :: x3 :: aI (v + 1) :: ls) (st) h := e_inc (ls := x0 :: x1 :: x2 :: x3 :: aI v :: ls) (k := 4) rfl rfl hx
theorem u_R_known_40 : ex cal k_R_known 40 (ls) (st) h = ex cal k_R_known 5 (ls) (st) h := ex_st cal (s := s_go 5) rfl rfl
theorem u_R_known_43 : ex cal k_R_known 43 (x0 :: x1 :: x2 :: aI v :: ls) (st) h = ex cal k_R_known 44 (x0 :: x1 :: x2 :: aI v :: ls) (aI v :: st) h := ex_st cal (s := s_ild 3 44) rfl rfl
theorem u_R_known_44 : ex cal k_R_known 44 (ls) ([aI v]) h = some (some (aI v), h) := e_ret1 cal rfl
theorem n_R_known (d : Nat) : ev (d + 1) M_R_known [aQ (some a), aI z0, aI z1] h = ex (ev d) k_R_known 0 [aQ (some a), aI z0, aI z1, aU, aU] [] h := rfl
theorem u_R_knows_0 : ex cal k_R_knows 0 (aQ r :: ls) (st) h = ex cal k_R_knows 1 (aQ r :: ls) (aQ r :: st) h := ex_st cal (s := s_ald 0 1) rfl rfl
theorem u_R_knows_1 : ex cal k_R_knows 1 (x0 :: aI v :: ls) (st) h = ex cal k_R_knows 2 (x0 :: aI v :: ls) (aI v :: st) h := ex_st cal (s := s_ild 1 2) rfl rfl
theorem u_R_knows_2 (hl : Nat.ble st.length 4 = true) : ex cal k_R_knows 2 (ls) (aI z0 :: aQ (some a) :: st) h = gO h a 10 (kk cal k_R_knows 5 ls st (cal M_R_isPerson [aQ (some a), aI z0] h)) := e_callV cal (ci := 10) (as := [aI z0]) rfl (by decide) rfl (Nat.le_of_ble_eq_true hl)
theorem u_R_knows_5 : ex cal k_R_knows 5 (ls) (aI i :: st) h = if wr i = 0 then ex cal k_R_knows 24 (ls) (st) h else ex cal k_R_knows 8 (ls) (st) h := e_ifeq cal rfl
theorem u_R_knows_8 : ex cal k_R_knows 8 (x0 :: x1 :: aI v :: ls) (st) h = ex cal k_R_knows 9 (x0 :: x1 :: aI v :: ls) (aI v :: st) h := ex_st cal (s := s_ild 2 9) rfl rfl
theorem u_R_knows_9 (hl : Nat.ble st.length 4 = true) : ex cal k_R_knows 9 (ls) (aI z0 :: st) h = kk cal k_R_knows 12 ls st (cal M_R_isFile [aI z0] h) := e_call cal (as := [aI z0]) rfl rfl (Nat.le_of_ble_eq_true hl)
theorem u_R_knows_12 : ex cal k_R_knows 12 (ls) (aI i :: st) h = if wr i = 0 then ex cal k_R_knows 24 (ls) (st) h else ex cal k_R_knows 15 (ls) (st) h := e_ifeq cal rfl
theorem u_R_knows_15 : ex cal k_R_knows 15 (aQ r :: ls) (st) h = ex cal k_R_knows 16 (aQ r :: ls) (aQ r :: st) h := ex_st cal (s := s_ald 0 16) rfl rfl
theorem u_R_knows_16 : ex cal k_R_knows 16 (x0 :: aI v :: ls) (st) h = ex cal k_R_knows 17 (x0 :: aI v :: ls) (aI v :: st) h := ex_st cal (s := s_ild 1 17) rfl rfl
theorem u_R_knows_17 : ex cal k_R_knows 17 (x0 :: x1 :: aI v :: ls) (st) h = ex cal k_R_knows 18 (x0 :: x1 :: aI v :: ls) (aI v :: st) h := ex_st cal (s := s_ild 2 18) rfl rfl
theorem u_R_knows_18 (hl : Nat.ble st.length 4 = true) : ex cal k_R_knows 18 (ls) (aI z1 :: aI z0 :: aQ (some a) :: st) h = gO h a 10 (kk cal k_R_knows 21 ls st (cal M_R_known [aQ (some a), aI z0, aI z1] h)) := e_callV cal (ci := 10) (as := [aI z1, aI z0]) rfl (by decide) rfl (Nat.le_of_ble_eq_true hl)
theorem u_R_knows_21 : ex cal k_R_knows 21 (ls) (st) h = ex cal k_R_knows 25 (ls) (st) h := ex_st cal (s := s_go 25) rfl rfl
theorem u_R_knows_24 : ex cal k_R_knows 24 (ls) (st) h = ex cal k_R_knows 25 (ls) (aI (-1) :: st) h := e_push cal rfl
theorem u_R_knows_25 : ex cal k_R_knows 25 (ls) ([aI v]) h = some (some (aI v), h) := e_ret1 cal rfl
theorem n_R_knows (d : Nat) : ev (d + 1) M_R_knows [aQ (some a), aI z0, aI z1] h = ex (ev d) k_R_knows 0 [aQ (some a), aI z0, aI z1] [] h := rfl
theorem u_R_does_0 : ex cal k_R_does 0 (ls) (st) h = ex cal k_R_does 2 (ls) (aI 100 :: st) h := e_push cal rfl
theorem u_R_does_2 : ex cal k_R_does 2 (x0 :: aI v :: ls) (st) h = ex cal k_R_does 3 (x0 :: aI v :: ls) (aI v :: st) h := ex_st cal (s := s_ild 1 3) rfl rfl
theorem u_R_does_3 : ex cal k_R_does 3 (ls) (aI j :: aI i :: st) h = ex cal k_R_does 4 (ls) (aI (i * j) :: st) h := e_bin cal rfl
theorem u_R_does_4 : ex cal k_R_does 4 (aQ r :: ls) (st) h = ex cal k_R_does 5 (aQ r :: ls) (aQ r :: st) h := ex_st cal (s := s_ald 0 5) rfl rfl
theorem u_R_does_5 : ex cal k_R_does 5 (ls) (aQ (some a) :: st) h = gO h a 10 (ex cal k_R_does 8 (ls) (gf h a 14 :: st) h) := e_gf cal rfl
theorem u_R_does_8 : ex cal k_R_does 8 (ls) (st) h = ex cal k_R_does 9 (ls) (aI 5 :: st) h := e_push cal rfl
theorem u_R_does_9 : ex cal k_R_does 9 (ls) (aI i :: aQ (some a) :: st) h = gA h a i (ex cal k_R_does 10 (ls) (aI (ai h a (wr i)) :: st) h) := e_ia cal rfl
theorem u_R_does_10 : ex cal k_R_does 10 (aQ r :: ls) (st) h = ex cal k_R_does 11 (aQ r :: ls) (aQ r :: st) h := ex_st cal (s := s_ald 0 11) rfl rfl
theorem u_R_does_11 : ex cal k_R_does 11 (ls) (aQ (some a) :: st) h = gO h a 10 (ex cal k_R_does 14 (ls) (gf h a 1 :: st) h) := e_gf cal rfl
theorem u_R_does_14 : ex cal k_R_does 14 (x0 :: x1 :: aI v :: ls) (st) h = ex cal k_R_does 15 (x0 :: x1 :: aI v :: ls) (aI v :: st) h := ex_st cal (s := s_ild 2 15) rfl rfl
theorem u_R_does_15 : ex cal k_R_does 15 (ls) (aI i :: aQ (some a) :: st) h = gA h a i (ex cal k_R_does 16 (ls) (aI (ai h a (wr i)) :: st) h) := e_ia cal rfl
theorem u_R_does_16 : ex cal k_R_does 16 (ls) (aI j :: aI i :: st) h = ex cal k_R_does 17 (ls) (aI (i * j) :: st) h := e_bin cal rfl
theorem u_R_does_17 : ex cal k_R_does 17 (ls) (aI j :: aI i :: st) h = if wr i < wr j then ex cal k_R_does 24 (ls) (st) h else ex cal k_R_does 20 (ls) (st) h := e_iclt cal rfl
theorem u_R_does_20 : ex cal k_R_does 20 (ls) (st) h = ex cal k_R_does 21 (ls) (aI 1 :: st) h := e_push cal rfl
theorem u_R_does_21 : ex cal k_R_does 21 (ls) (st) h = ex cal k_R_does 25 (ls) (st) h := ex_st cal (s := s_go 25) rfl rfl
theorem u_R_does_24 : ex cal k_R_does 24 (ls) (st) h = ex cal k_R_does 25 (ls) (aI 0 :: st) h := e_push cal rfl
theorem u_R_does_25 (hv : v = 0 ∨ v = 1) : ex cal k_R_does 25 (ls) ([aI v]) h = some (some (aI v), h) := e_ret22 rfl hv
theorem n_R_does (d : Nat) : ev (d + 1) M_R_does [aQ (some a), aI z0, aI z1] h = ex (ev d) k_R_does 0 [aQ (some a), aI z0, aI z1] [] h := rfl
theorem u_R_isAble_0 : ex cal k_R_isAble 0 (aQ r :: ls) (st) h = ex cal k_R_isAble 1 (aQ r :: ls) (aQ r :: st) h := ex_st cal (s := s_ald 0 1) rfl rfl
theorem u_R_isAble_1 : ex cal k_R_isAble 1 (aQ r :: ls) (st) h = ex cal k_R_isAble 2 (aQ r :: ls) (aQ r :: st) h := ex_st cal (s := s_ald 0 2) rfl rfl
theorem u_R_isAble_2 : ex cal k_R_isAble 2 (x0 :: aI v :: ls) (st) h = ex cal k_R_isAble 3 (x0 :: aI v :: ls) (aI v :: st) h := ex_st cal (s := s_ild 1 3) rfl rfl
theorem u_R_isAble_3 : ex cal k_R_isAble 3 (x0 :: x1 :: aI v :: ls) (st) h = ex cal k_R_isAble 4 (x0 :: x1 :: aI v :: ls) (aI v :: st) h := ex_st cal (s := s_ild 2 4) rfl rfl
theorem u_R_isAble_4 (hl : Nat.ble st.length 4 = true) : ex cal k_R_isAble 4 (ls) (aI z1 :: aI z0 :: aQ (some a) :: st) h = gO h a 10 (kk cal k_R_isAble 7 ls st (cal M_R_known [aQ (some a), aI z0, aI z1] h)) := e_callV cal (ci := 10) (as := [aI z1, aI z0]) rfl (by decide) rfl (Nat.le_of_ble_eq_true hl)
theorem u_R_isAble_7 : ex cal k_R_isAble 7 (x0 :: x1 :: aI v :: ls) (st) h = ex cal k_R_isAble 8 (x0 :: x1 :: aI v :: ls) (aI v :: st) h := ex_st cal (s := s_ild 2 8) rfl rfl
theorem u_R_isAble_8 (hl : Nat.ble st.length 4 = true) : ex cal k_R_isAble 8 (ls) (aI z1 :: aI z0 :: aQ (some a) :: st) h = gO h a 10 (kk cal k_R_isAble 11 ls st (cal M_R_does [aQ (some a), aI z0, aI z1] h)) := e_callV cal (ci := 10) (as := [aI z1, aI z0]) rfl (by decide) rfl (Nat.le_of_ble_eq_true hl)
theorem u_R_isAble_11 (hv : v = 0 ∨ v = 1) : ex cal k_R_isAble 11 (ls) ([aI v]) h = some (some (aI v), h) := e_ret22 rfl hv
theorem n_R_isAble (d : Nat) : ev (d + 1) M_R_isAble [aQ (some a), aI z0, aI z1] h = ex (ev d) k_R_isAble 0 [aQ (some a), aI z0, aI z1] [] h := rfl
theorem u_R_able_0 : ex cal k_R_able 0 (aQ r :: ls) (st) h = ex cal k_R_able 1 (aQ r :: ls) (aQ r :: st) h := ex_st cal (s := s_ald 0 1) rfl rfl
theorem u_R_able_1 : ex cal k_R_able 1 (x0 :: aI v :: ls) (st) h = ex cal k_R_able 2 (x0 :: aI v :: ls) (aI v :: st) h := ex_st cal (s := s_ild 1 2) rfl rfl
theorem u_R_able_2 (hl : Nat.ble st.length 4 = true) : ex cal k_R_able 2 (ls) (aI z0 :: aQ (some a) :: st) h = gO h a 10 (kk cal k_R_able 5 ls st (cal M_R_isPerson [aQ (some a), aI z0] h)) := e_callV cal (ci := 10) (as := [aI z0]) rfl (by decide) rfl (Nat.le_of_ble_eq_true hl)
theorem u_R_able_5 : ex cal k_R_able 5 (ls) (aI i :: st) h = if wr i = 0 then ex cal k_R_able 15 (ls) (st) h else ex cal k_R_able 8 (ls) (st) h := e_ifeq cal rfl
theorem u_R_able_8 : ex cal k_R_able 8 (x0 :: x1 :: aI v :: ls) (st) h = ex cal k_R_able 9 (x0 :: x1 :: aI v :: ls) (aI v :: st) h := ex_st cal (s := s_ild 2 9) rfl rfl
theorem u_R_able_9 (hl : Nat.ble st.length 4 = true) : ex cal k_R_able 9 (ls) (aI z0 :: st) h = kk cal k_R_able 12 ls st (cal M_R_isFile [aI z0] h) := e_call cal (as := [aI z0]) rfl rfl (Nat.le_of_ble_eq_true hl)
theorem u_R_able_12 : ex cal k_R_able 12 (ls) (aI i :: st) h = if wr i = 0 then ex cal k_R_able 15 (ls) (st) h else ex cal k_R_able 19 (ls) (st) h := e_ifne cal rfl
theorem u_R_able_15 : ex cal k_R_able 15 (ls) (st) h = ex cal k_R_able 16 (ls) (aI (-1) :: st) h := e_push cal rfl
theorem u_R_able_16 : ex cal k_R_able 16 (ls) (st) h = ex cal k_R_able 33 (ls) (st) h := ex_st cal (s := s_go 33) rfl rfl
theorem u_R_able_19 : ex cal k_R_able 19 (aQ r :: ls) (st) h = ex cal k_R_able 20 (aQ r :: ls) (aQ r :: st) h := ex_st cal (s := s_ald 0 20) rfl rfl
theorem u_R_able_20 : ex cal k_R_able 20 (x0 :: aI v :: ls) (st) h = ex cal k_R_able 21 (x0 :: aI v :: ls) (aI v :: st) h := ex_st cal (s := s_ild 1 21) rfl rfl
theorem u_R_able_21 : ex cal k_R_able 21 (x0 :: x1 :: aI v :: ls) (st) h = ex cal k_R_able 22 (x0 :: x1 :: aI v :: ls) (aI v :: st) h := ex_st cal (s := s_ild 2 22) rfl rfl
theorem u_R_able_22 (hl : Nat.ble st.length 4 = true) : ex cal k_R_able 22 (ls) (aI z1 :: aI z0 :: aQ (some a) :: st) h = gO h a 10 (kk cal k_R_able 25 ls st (cal M_R_isAble [aQ (some a), aI z0, aI z1] h)) := e_callV cal (ci := 10) (as := [aI z1, aI z0]) rfl (by decide) rfl (Nat.le_of_ble_eq_true hl)
theorem u_R_able_25 : ex cal k_R_able 25 (ls) (aI i :: st) h = if wr i = 0 then ex cal k_R_able 32 (ls) (st) h else ex cal k_R_able 28 (ls) (st) h := e_ifeq cal rfl
theorem u_R_able_28 : ex cal k_R_able 28 (ls) (st) h = ex cal k_R_able 29 (ls) (aI 1 :: st) h := e_push cal rfl
theorem u_R_able_29 : ex cal k_R_able 29 (ls) (st) h = ex cal k_R_able 33 (ls) (st) h := ex_st cal (s := s_go 33) rfl rfl
theorem u_R_able_32 : ex cal k_R_able 32 (ls) (st) h = ex cal k_R_able 33 (ls) (aI 0 :: st) h := e_push cal rfl
theorem u_R_able_33 : ex cal k_R_able 33 (ls) ([aI v]) h = some (some (aI v), h) := e_ret1 cal rfl
theorem n_R_able (d : Nat) : ev (d + 1) M_R_able [aQ (some a), aI z0, aI z1] h = ex (ev d) k_R_able 0 [aQ (some a), aI z0, aI z1] [] h := rfl
theorem u_R_findAbles_0 : ex cal k_R_findAbles 0 (ls) (st) h = ex cal k_R_findAbles 1 (ls) (aI 0 :: st) h := e_push cal rfl
theorem u_R_findAbles_1 (hx : aNl x0 = true) : ex cal k_R_findAbles 1 (x0 :: y :: ls) (aI v :: st) h = ex cal k_R_findAbles 2 (x0 :: aI v :: ls) (st) h := e_ist (ls := x0 :: y :: ls) (k := 1) rfl hx (by simp only [List.length_cons]; omega)
theorem u_R_findAbles_2 : ex cal k_R_findAbles 2 (x0 :: aI v :: ls) (st) h = ex cal k_R_findAbles 3 (x0 :: aI v :: ls) (aI v :: st) h := ex_st cal (s := s_ild 1 3) rfl rfl
theorem u_R_findAbles_3 : ex cal k_R_findAbles 3 (ls) (st) h = ex cal k_R_findAbles 5 (ls) (aI 6 :: st) h := e_push cal rfl
theorem u_R_findAbles_5 : ex cal k_R_findAbles 5 (ls) (aI j :: aI i :: st) h = if wr i < wr j then ex cal k_R_findAbles 8 (ls) (st) h else ex cal k_R_findAbles 72 (ls) (st) h := e_icge cal rfl
theorem u_R_findAbles_8 : ex cal k_R_findAbles 8 (aQ r :: ls) (st) h = ex cal k_R_findAbles 9 (aQ r :: ls) (aQ r :: st) h := ex_st cal (s := s_ald 0 9) rfl rfl
theorem u_R_findAbles_9 : ex cal k_R_findAbles 9 (ls) (aQ (some a) :: st) h = gO h a 10 (ex cal k_R_findAbles 12 (ls) (gf h a 22 :: st) h) := e_gf cal rfl
theorem u_R_findAbles_12 : ex cal k_R_findAbles 12 (x0 :: aI v :: ls) (st) h = ex cal k_R_findAbles 13 (x0 :: aI v :: ls) (aI v :: st) h := ex_st cal (s := s_ild 1 13) rfl rfl
theorem u_R_findAbles_13 : ex cal k_R_findAbles 13 (ls) (st) h = ex cal k_R_findAbles 14 (ls) (aI 0 :: st) h := e_push cal rfl
theorem u_R_findAbles_14 (h3 : 3 ≤ a) : ex cal k_R_findAbles 14 (ls) (aI v :: aI i :: aQ (some a) :: st) h = gA h a i (ex cal k_R_findAbles 15 (ls) (st) (sa h a (upf (ai h a) (wr i) v))) := e_ias cal rfl h3
theorem u_R_findAbles_15 : ex cal k_R_findAbles 15 (ls) (st) h = ex cal k_R_findAbles 16 (ls) (aI 0 :: st) h := e_push cal rfl
theorem u_R_findAbles_16 (hx : aNl x1 = true) : ex cal k_R_findAbles 16 (x0 :: x1 :: y :: ls) (aI v :: st) h = ex cal k_R_findAbles 17 (x0 :: x1 :: aI v :: ls) (st) h := e_ist (ls := x0 :: x1 :: y :: ls) (k := 2) rfl hx (by simp only [List.length_cons]; omega)
theorem u_R_findAbles_17 : ex cal k_R_findAbles 17 (x0 :: x1 :: aI v :: ls) (st) h = ex cal k_R_findAbles 18 (x0 :: x1 :: aI v :: ls) (aI v :: st) h := ex_st cal (s := s_ild 2 18) rfl rfl
theorem u_R_findAbles_18 : ex cal k_R_findAbles 18 (aQ r :: ls) (st) h = ex cal k_R_findAbles 19 (aQ r :: ls) (aQ r :: st) h := ex_st cal (s := s_ald 0 19) rfl rfl
theorem u_R_findAbles_19 : ex cal k_R_findAbles 19 (ls) (aQ (some a) :: st) h = gO h a 10 (ex cal k_R_findAbles 22 (ls) (gf h a 14 :: st) h) := e_gf cal rfl
theorem u_R_findAbles_22 : ex cal k_R_findAbles 22 (ls) (st) h = ex cal k_R_findAbles 23 (ls) (aI 0 :: st) h := e_push cal rfl
theorem u_R_findAbles_23 : ex cal k_R_findAbles 23 (ls) (aI i :: aQ (some a) :: st) h = gA h a i (ex cal k_R_findAbles 24 (ls) (aI (ai h a (wr i)) :: st) h) := e_ia cal rfl
theorem u_R_findAbles_24 : ex cal k_R_findAbles 24 (ls) (aI j :: aI i :: st) h = if wr i < wr j then ex cal k_R_findAbles 27 (ls) (st) h else ex cal k_R_findAbles 66 (ls) (st) h := e_icge cal rfl
theorem u_R_findAbles_27 : ex cal k_R_findAbles 27 (aQ r :: ls) (st) h = ex cal k_R_findAbles 28 (aQ r :: ls) (aQ r :: st) h := ex_st cal (s := s_ald 0 28) rfl rfl
theorem u_R_findAbles_28 : ex cal k_R_findAbles 28 (ls) (aQ (some a) :: st) h = gO h a 10 (ex cal k_R_findAbles 31 (ls) (gf h a 22 :: st) h) := e_gf cal rfl
theorem u_R_findAbles_31 : ex cal k_R_findAbles 31 (x0 :: aI v :: ls) (st) h = ex cal k_R_findAbles 32 (x0 :: aI v :: ls) (aI v :: st) h := ex_st cal (s := s_ild 1 32) rfl rfl
theorem u_R_findAbles_32 (hx : aNl y = true) (hy : aNl y2 = true) : ex cal k_R_findAbles 32 (ls) (y :: y2 :: st) h = ex cal k_R_findAbles 33 (ls) (y :: y2 :: y :: y2 :: st) h := e_dup2 rfl hx hy
theorem u_R_findAbles_33 : ex cal k_R_findAbles 33 (ls) (aI i :: aQ (some a) :: st) h = gA h a i (ex cal k_R_findAbles 34 (ls) (aI (ai h a (wr i)) :: st) h) := e_ia cal rfl
theorem u_R_findAbles_34 : ex cal k_R_findAbles 34 (aQ r :: ls) (st) h = ex cal k_R_findAbles 35 (aQ r :: ls) (aQ r :: st) h := ex_st cal (s := s_ald 0 35) rfl rfl
theorem u_R_findAbles_35 : ex cal k_R_findAbles 35 (x0 :: x1 :: aI v :: ls) (st) h = ex cal k_R_findAbles 36 (x0 :: x1 :: aI v :: ls) (aI v :: st) h := ex_st cal (s := s_ild 2 36) rfl rfl
theorem u_R_findAbles_36 (hl : Nat.ble st.length 4 = true) : ex cal k_R_findAbles 36 (ls) (aI z0 :: aQ (some a) :: st) h = gO h a 10 (kk cal k_R_findAbles 39 ls st (cal M_R_isHere [aQ (some a), aI z0] h)) := e_callV cal (ci := 10) (as := [aI z0]) rfl (by decide) rfl (Nat.le_of_ble_eq_true hl)
theorem u_R_findAbles_39 : ex cal k_R_findAbles 39 (ls) (aI i :: st) h = if wr i = 0 then ex cal k_R_findAbles 57 (ls) (st) h else ex cal k_R_findAbles 42 (ls) (st) h := e_ifeq cal rfl
theorem u_R_findAbles_42 : ex cal k_R_findAbles 42 (aQ r :: ls) (st) h = ex cal k_R_findAbles 43 (aQ r :: ls) (aQ r :: st) h := ex_st cal (s := s_ald 0 43) rfl rfl
theorem u_R_findAbles_43 : ex cal k_R_findAbles 43 (x0 :: x1 :: aI v :: ls) (st) h = ex cal k_R_findAbles 44 (x0 :: x1 :: aI v :: ls) (aI v :: st) h := ex_st cal (s := s_ild 2 44) rfl rfl
theorem u_R_findAbles_44 : ex cal k_R_findAbles 44 (x0 :: aI v :: ls) (st) h = ex cal k_R_findAbles 45 (x0 :: aI v :: ls) (aI v :: st) h := ex_st cal (s := s_ild 1 45) rfl rfl
theorem u_R_findAbles_45 (hl : Nat.ble st.length 4 = true) : ex cal k_R_findAbles 45 (ls) (aI z1 :: aI z0 :: aQ (some a) :: st) h = gO h a 10 (kk cal k_R_findAbles 48 ls st (cal M_R_isAble [aQ (some a), aI z0, aI z1] h)) := e_callV cal (ci := 10) (as := [aI z1, aI z0]) rfl (by decide) rfl (Nat.le_of_ble_eq_true hl)
theorem u_R_findAbles_48 : ex cal k_R_findAbles 48 (ls) (aI i :: st) h = if wr i = 0 then ex cal k_R_findAbles 57 (ls) (st) h else ex cal k_R_findAbles 51 (ls) (st) h := e_ifeq cal rfl
theorem u_R_findAbles_51 : ex cal k_R_findAbles 51 (ls) (st) h = ex cal k_R_findAbles 52 (ls) (aI 1 :: st) h := e_push cal rfl
theorem u_R_findAbles_52 : ex cal k_R_findAbles 52 (x0 :: x1 :: aI v :: ls) (st) h = ex cal k_R_findAbles 53 (x0 :: x1 :: aI v :: ls) (aI v :: st) h := ex_st cal (s := s_ild 2 53) rfl rfl
theorem u_R_findAbles_53 : ex cal k_R_findAbles 53 (ls) (aI j :: aI i :: st) h = ex cal k_R_findAbles 54 (ls) (aI (wshl i j) :: st) h := e_bin cal rfl
theorem u_R_findAbles_54 : ex cal k_R_findAbles 54 (ls) (st) h = ex cal k_R_findAbles 58 (ls) (st) h := ex_st cal (s := s_go 58) rfl rfl
theorem u_R_findAbles_57 : ex cal k_R_findAbles 57 (ls) (st) h = ex cal k_R_findAbles 58 (ls) (aI 0 :: st) h := e_push cal rfl
theorem u_R_findAbles_58 : ex cal k_R_findAbles 58 (ls) (aI j :: aI i :: st) h = ex cal k_R_findAbles 59 (ls) (aI (wor i j) :: st) h := e_bin cal rfl
theorem u_R_findAbles_59 (h3 : 3 ≤ a) : ex cal k_R_findAbles 59 (ls) (aI v :: aI i :: aQ (some a) :: st) h = gA h a i (ex cal k_R_findAbles 60 (ls) (st) (sa h a (upf (ai h a) (wr i) v))) := e_ias cal rfl h3
theorem u_R_findAbles_60 (hx : aNl x1 = true) : ex cal k_R_findAbles 60 (x0 :: x1 :: aI v :: ls) (st) h = ex cal k_R_findAbles 63 (x0 :: x1 :: aI (v + 1) :: ls) (st) h := e_inc (ls := x0 :: x1 :: aI v :: ls) (k := 2) rfl rfl hx
theorem u_R_findAbles_63 : ex cal k_R_findAbles 63 (ls) (st) h = ex cal k_R_findAbles 17 (ls) (st) h := ex_st cal (s := s_go 17) rfl rfl
theorem u_R_findAbles_66 (hx : aNl x0 = true) : ex cal k_R_findAbles 66 (x0 :: aI v :: ls) (st) h = ex cal k_R_findAbles 69 (x0 :: aI (v + 1) :: ls) (st) h := e_inc (ls := x0 :: aI v :: ls) (k := 1) rfl rfl hx
theorem u_R_findAbles_69 : ex cal k_R_findAbles 69 (ls) (st) h = ex cal k_R_findAbles 2 (ls) (st) h := ex_st cal (s := s_go 2) rfl rfl
theorem u_R_findAbles_72 : ex cal k_R_findAbles 72 (ls) ([]) h = some (none, h) := e_ret0 cal rfl
theorem n_R_findAbles (d : Nat) : ev (d + 1) M_R_findAbles [aQ (some a)] h = ex (ev d) k_R_findAbles 0 [aQ (some a), aU, aU] [] h := rfl
theorem u_R_lostBy_0 : ex cal k_R_lostBy 0 (ls) (st) h = ex cal k_R_lostBy 1 (ls) (aI 0 :: st) h := e_push cal rfl
theorem u_R_lostBy_1 (hx : aNl x1 = true) : ex cal k_R_lostBy 1 (x0 :: x1 :: y :: ls) (aI v :: st) h = ex cal k_R_lostBy 2 (x0 :: x1 :: aI v :: ls) (st) h := e_ist (ls := x0 :: x1 :: y :: ls) (k := 2) rfl hx (by simp only [List.length_cons]; omega)
theorem u_R_lostBy_2 : ex cal k_R_lostBy 2 (ls) (st) h = ex cal k_R_lostBy 3 (ls) (aI 0 :: st) h := e_push cal rfl
theorem u_R_lostBy_3 (hx : aNl x2 = true) : ex cal k_R_lostBy 3 (x0 :: x1 :: x2 :: y :: ls) (aI v :: st) h = ex cal k_R_lostBy 4 (x0 :: x1 :: x2 :: aI v :: ls) (st) h := e_ist (ls := x0 :: x1 :: x2 :: y :: ls) (k := 3) rfl hx (by simp only [List.length_cons]; omega)
theorem u_R_lostBy_4 : ex cal k_R_lostBy 4 (x0 :: x1 :: x2 :: aI v :: ls) (st) h = ex cal k_R_lostBy 5 (x0 :: x1 :: x2 :: aI v :: ls) (aI v :: st) h := ex_st cal (s := s_ild 3 5) rfl rfl
theorem u_R_lostBy_5 : ex cal k_R_lostBy 5 (ls) (st) h = ex cal k_R_lostBy 7 (ls) (aI 6 :: st) h := e_push cal rfl
theorem u_R_lostBy_7 : ex cal k_R_lostBy 7 (ls) (aI j :: aI i :: st) h = if wr i < wr j then ex cal k_R_lostBy 10 (ls) (st) h else ex cal k_R_lostBy 39 (ls) (st) h := e_icge cal rfl
theorem u_R_lostBy_10 : ex cal k_R_lostBy 10 (x0 :: x1 :: aI v :: ls) (st) h = ex cal k_R_lostBy 11 (x0 :: x1 :: aI v :: ls) (aI v :: st) h := ex_st cal (s := s_ild 2 11) rfl rfl
theorem u_R_lostBy_11 : ex cal k_R_lostBy 11 (aQ r :: ls) (st) h = ex cal k_R_lostBy 12 (aQ r :: ls) (aQ r :: st) h := ex_st cal (s := s_ald 0 12) rfl rfl
theorem u_R_lostBy_12 : ex cal k_R_lostBy 12 (ls) (aQ (some a) :: st) h = gO h a 10 (ex cal k_R_lostBy 15 (ls) (gf h a 22 :: st) h) := e_gf cal rfl
theorem u_R_lostBy_15 : ex cal k_R_lostBy 15 (x0 :: x1 :: x2 :: aI v :: ls) (st) h = ex cal k_R_lostBy 16 (x0 :: x1 :: x2 :: aI v :: ls) (aI v :: st) h := ex_st cal (s := s_ild 3 16) rfl rfl
theorem u_R_lostBy_16 : ex cal k_R_lostBy 16 (ls) (aI i :: aQ (some a) :: st) h = gA h a i (ex cal k_R_lostBy 17 (ls) (aI (ai h a (wr i)) :: st) h) := e_ia cal rfl
theorem u_R_lostBy_17 : ex cal k_R_lostBy 17 (x0 :: aI v :: ls) (st) h = ex cal k_R_lostBy 18 (x0 :: aI v :: ls) (aI v :: st) h := ex_st cal (s := s_ild 1 18) rfl rfl
theorem u_R_lostBy_18 : ex cal k_R_lostBy 18 (ls) (st) h = ex cal k_R_lostBy 19 (ls) (aI (-1) :: st) h := e_push cal rfl
theorem u_R_lostBy_19 : ex cal k_R_lostBy 19 (ls) (aI j :: aI i :: st) h = ex cal k_R_lostBy 20 (ls) (aI (wxor i j) :: st) h := e_bin cal rfl
theorem u_R_lostBy_20 : ex cal k_R_lostBy 20 (ls) (aI j :: aI i :: st) h = ex cal k_R_lostBy 21 (ls) (aI (wand i j) :: st) h := e_bin cal rfl
theorem u_R_lostBy_21 : ex cal k_R_lostBy 21 (ls) (aI i :: st) h = if wr i = 0 then ex cal k_R_lostBy 24 (ls) (st) h else ex cal k_R_lostBy 30 (ls) (st) h := e_ifne cal rfl
theorem u_R_lostBy_24 : ex cal k_R_lostBy 24 (ls) (st) h = ex cal k_R_lostBy 25 (ls) (aI 1 :: st) h := e_push cal rfl
theorem u_R_lostBy_25 : ex cal k_R_lostBy 25 (x0 :: x1 :: x2 :: aI v :: ls) (st) h = ex cal k_R_lostBy 26 (x0 :: x1 :: x2 :: aI v :: ls) (aI v :: st) h := ex_st cal (s := s_ild 3 26) rfl rfl
theorem u_R_lostBy_26 : ex cal k_R_lostBy 26 (ls) (aI j :: aI i :: st) h = ex cal k_R_lostBy 27 (ls) (aI (wshl i j) :: st) h := e_bin cal rfl
theorem u_R_lostBy_27 : ex cal k_R_lostBy 27 (ls) (st) h = ex cal k_R_lostBy 31 (ls) (st) h := ex_st cal (s := s_go 31) rfl rfl
theorem u_R_lostBy_30 : ex cal k_R_lostBy 30 (ls) (st) h = ex cal k_R_lostBy 31 (ls) (aI 0 :: st) h := e_push cal rfl
theorem u_R_lostBy_31 : ex cal k_R_lostBy 31 (ls) (aI j :: aI i :: st) h = ex cal k_R_lostBy 32 (ls) (aI (wor i j) :: st) h := e_bin cal rfl
theorem u_R_lostBy_32 (hx : aNl x1 = true) : ex cal k_R_lostBy 32 (x0 :: x1 :: y :: ls) (aI v :: st) h = ex cal k_R_lostBy 33 (x0 :: x1 :: aI v :: ls) (st) h := e_ist (ls := x0 :: x1 :: y :: ls) (k := 2) rfl hx (by simp only [List.length_cons]; omega)
theorem u_R_lostBy_33 (hx : aNl x2 = true) : ex cal k_R_lostBy 33 (x0 :: x1 :: x2 :: aI v :: ls) (st) h = ex cal k_R_lostBy 36 (x0 :: x1 :: x2 :: aI (v + 1) :: ls) (st) h := e_inc (ls := x0 :: x1 :: x2 :: aI v :: ls) (k := 3) rfl rfl hx
theorem u_R_lostBy_36 : ex cal k_R_lostBy 36 (ls) (st) h = ex cal k_R_lostBy 4 (ls) (st) h := ex_st cal (s := s_go 4) rfl rfl
theorem u_R_lostBy_39 : ex cal k_R_lostBy 39 (x0 :: x1 :: aI v :: ls) (st) h = ex cal k_R_lostBy 40 (x0 :: x1 :: aI v :: ls) (aI v :: st) h := ex_st cal (s := s_ild 2 40) rfl rfl
theorem u_R_lostBy_40 : ex cal k_R_lostBy 40 (ls) ([aI v]) h = some (some (aI v), h) := e_ret1 cal rfl
theorem n_R_lostBy (d : Nat) : ev (d + 1) M_R_lostBy [aQ (some a), aI z0] h = ex (ev d) k_R_lostBy 0 [aQ (some a), aI z0, aU, aU] [] h := rfl
theorem u_R_lost_0 : ex cal k_R_lost 0 (x0 :: aI v :: ls) (st) h = ex cal k_R_lost 1 (x0 :: aI v :: ls) (aI v :: st) h := ex_st cal (s := s_ild 1 1) rfl rfl
theorem u_R_lost_1 : ex cal k_R_lost 1 (ls) (aI i :: st) h = if wr i < 0 then ex cal k_R_lost 16 (ls) (st) h else ex cal k_R_lost 4 (ls) (st) h := e_iflt cal rfl
theorem u_R_lost_4 : ex cal k_R_lost 4 (x0 :: aI v :: ls) (st) h = ex cal k_R_lost 5 (x0 :: aI v :: ls) (aI v :: st) h := ex_st cal (s := s_ild 1 5) rfl rfl
theorem u_R_lost_5 : ex cal k_R_lost 5 (ls) (st) h = ex cal k_R_lost 6 (ls) (aI 1 :: st) h := e_push cal rfl
theorem u_R_lost_6 : ex cal k_R_lost 6 (aQ r :: ls) (st) h = ex cal k_R_lost 7 (aQ r :: ls) (aQ r :: st) h := ex_st cal (s := s_ald 0 7) rfl rfl
theorem u_R_lost_7 : ex cal k_R_lost 7 (ls) (aQ (some a) :: st) h = gO h a 10 (ex cal k_R_lost 10 (ls) (gf h a 14 :: st) h) := e_gf cal rfl
theorem u_R_lost_10 : ex cal k_R_lost 10 (ls) (st) h = ex cal k_R_lost 11 (ls) (aI 0 :: st) h := e_push cal rfl
theorem u_R_lost_11 : ex cal k_R_lost 11 (ls) (aI i :: aQ (some a) :: st) h = gA h a i (ex cal k_R_lost 12 (ls) (aI (ai h a (wr i)) :: st) h) := e_ia cal rfl
theorem u_R_lost_12 : ex cal k_R_lost 12 (ls) (aI j :: aI i :: st) h = ex cal k_R_lost 13 (ls) (aI (wshl i j) :: st) h := e_bin cal rfl
theorem u_R_lost_13 : ex cal k_R_lost 13 (ls) (aI j :: aI i :: st) h = if wr i < wr j then ex cal k_R_lost 18 (ls) (st) h else ex cal k_R_lost 16 (ls) (st) h := e_iclt cal rfl
theorem u_R_lost_16 : ex cal k_R_lost 16 (ls) (st) h = ex cal k_R_lost 17 (ls) (aI (-1) :: st) h := e_push cal rfl
theorem u_R_lost_17 : ex cal k_R_lost 17 (ls) ([aI v]) h = some (some (aI v), h) := e_ret1 cal rfl
theorem u_R_lost_18 : ex cal k_R_lost 18 (aQ r :: ls) (st) h = ex cal k_R_lost 19 (aQ r :: ls) (aQ r :: st) h := ex_st cal (s := s_ald 0 19) rfl rfl
theorem u_R_lost_19 (hl : Nat.ble st.length 4 = true) : ex cal k_R_lost 19 (ls) (aQ (some a) :: st) h = gO h a 10 (kk cal k_R_lost 22 ls st (cal M_R_findAbles [aQ (some a)] h)) := e_callV cal (ci := 10) (as := []) rfl (by decide) rfl (Nat.le_of_ble_eq_true hl)
theorem u_R_lost_22 : ex cal k_R_lost 22 (aQ r :: ls) (st) h = ex cal k_R_lost 23 (aQ r :: ls) (aQ r :: st) h := ex_st cal (s := s_ald 0 23) rfl rfl
theorem u_R_lost_23 : ex cal k_R_lost 23 (x0 :: aI v :: ls) (st) h = ex cal k_R_lost 24 (x0 :: aI v :: ls) (aI v :: st) h := ex_st cal (s := s_ild 1 24) rfl rfl
theorem u_R_lost_24 (hl : Nat.ble st.length 4 = true) : ex cal k_R_lost 24 (ls) (aI z0 :: aQ (some a) :: st) h = gO h a 10 (kk cal k_R_lost 27 ls st (cal M_R_lostBy [aQ (some a), aI z0] h)) := e_callV cal (ci := 10) (as := [aI z0]) rfl (by decide) rfl (Nat.le_of_ble_eq_true hl)
theorem u_R_lost_27 : ex cal k_R_lost 27 (ls) ([aI v]) h = some (some (aI v), h) := e_ret1 cal rfl
theorem n_R_lost (d : Nat) : ev (d + 1) M_R_lost [aQ (some a), aI z0] h = ex (ev d) k_R_lost 0 [aQ (some a), aI z0] [] h := rfl
theorem u_R_bits_0 : ex cal k_R_bits 0 (ls) (st) h = ex cal k_R_bits 1 (ls) (aI 0 :: st) h := e_push cal rfl
theorem u_R_bits_1 (hx : aNl x0 = true) : ex cal k_R_bits 1 (x0 :: y :: ls) (aI v :: st) h = ex cal k_R_bits 2 (x0 :: aI v :: ls) (st) h := e_ist (ls := x0 :: y :: ls) (k := 1) rfl hx (by simp only [List.length_cons]; omega)
theorem u_R_bits_2 : ex cal k_R_bits 2 (ls) (st) h = ex cal k_R_bits 3 (ls) (aI 0 :: st) h := e_push cal rfl
theorem u_R_bits_3 (hx : aNl x1 = true) : ex cal k_R_bits 3 (x0 :: x1 :: y :: ls) (aI v :: st) h = ex cal k_R_bits 4 (x0 :: x1 :: aI v :: ls) (st) h := e_ist (ls := x0 :: x1 :: y :: ls) (k := 2) rfl hx (by simp only [List.length_cons]; omega)
theorem u_R_bits_4 : ex cal k_R_bits 4 (x0 :: x1 :: aI v :: ls) (st) h = ex cal k_R_bits 5 (x0 :: x1 :: aI v :: ls) (aI v :: st) h := ex_st cal (s := s_ild 2 5) rfl rfl
theorem u_R_bits_5 : ex cal k_R_bits 5 (ls) (st) h = ex cal k_R_bits 7 (ls) (aI 8 :: st) h := e_push cal rfl
theorem u_R_bits_7 : ex cal k_R_bits 7 (ls) (aI j :: aI i :: st) h = if wr i < wr j then ex cal k_R_bits 10 (ls) (st) h else ex cal k_R_bits 24 (ls) (st) h := e_icge cal rfl
theorem u_R_bits_10 : ex cal k_R_bits 10 (x0 :: aI v :: ls) (st) h = ex cal k_R_bits 11 (x0 :: aI v :: ls) (aI v :: st) h := ex_st cal (s := s_ild 1 11) rfl rfl
theorem u_R_bits_11 : ex cal k_R_bits 11 (aI v :: ls) (st) h = ex cal k_R_bits 12 (aI v :: ls) (aI v :: st) h := ex_st cal (s := s_ild 0 12) rfl rfl
theorem u_R_bits_12 : ex cal k_R_bits 12 (x0 :: x1 :: aI v :: ls) (st) h = ex cal k_R_bits 13 (x0 :: x1 :: aI v :: ls) (aI v :: st) h := ex_st cal (s := s_ild 2 13) rfl rfl
theorem u_R_bits_13 : ex cal k_R_bits 13 (ls) (aI j :: aI i :: st) h = ex cal k_R_bits 14 (ls) (aI (wshr i j) :: st) h := e_bin cal rfl
theorem u_R_bits_14 : ex cal k_R_bits 14 (ls) (st) h = ex cal k_R_bits 15 (ls) (aI 1 :: st) h := e_push cal rfl
theorem u_R_bits_15 : ex cal k_R_bits 15 (ls) (aI j :: aI i :: st) h = ex cal k_R_bits 16 (ls) (aI (wand i j) :: st) h := e_bin cal rfl
theorem u_R_bits_16 : ex cal k_R_bits 16 (ls) (aI j :: aI i :: st) h = ex cal k_R_bits 17 (ls) (aI (i + j) :: st) h := e_bin cal rfl
theorem u_R_bits_17 (hx : aNl x0 = true) : ex cal k_R_bits 17 (x0 :: y :: ls) (aI v :: st) h = ex cal k_R_bits 18 (x0 :: aI v :: ls) (st) h := e_ist (ls := x0 :: y :: ls) (k := 1) rfl hx (by simp only [List.length_cons]; omega)
theorem u_R_bits_18 (hx : aNl x1 = true) : ex cal k_R_bits 18 (x0 :: x1 :: aI v :: ls) (st) h = ex cal k_R_bits 21 (x0 :: x1 :: aI (v + 1) :: ls) (st) h := e_inc (ls := x0 :: x1 :: aI v :: ls) (k := 2) rfl rfl hx
theorem u_R_bits_21 : ex cal k_R_bits 21 (ls) (st) h = ex cal k_R_bits 4 (ls) (st) h := ex_st cal (s := s_go 4) rfl rfl
theorem u_R_bits_24 : ex cal k_R_bits 24 (x0 :: aI v :: ls) (st) h = ex cal k_R_bits 25 (x0 :: aI v :: ls) (aI v :: st) h := ex_st cal (s := s_ild 1 25) rfl rfl
theorem u_R_bits_25 : ex cal k_R_bits 25 (ls) ([aI v]) h = some (some (aI v), h) := e_ret1 cal rfl
theorem n_R_bits (d : Nat) : ev (d + 1) M_R_bits [aI z0] h = ex (ev d) k_R_bits 0 [aI z0, aU, aU] [] h := rfl
theorem u_R_isLone_0 : ex cal k_R_isLone 0 (aQ r :: ls) (st) h = ex cal k_R_isLone 1 (aQ r :: ls) (aQ r :: st) h := ex_st cal (s := s_ald 0 1) rfl rfl
theorem u_R_isLone_1 : ex cal k_R_isLone 1 (x0 :: aI v :: ls) (st) h = ex cal k_R_isLone 2 (x0 :: aI v :: ls) (aI v :: st) h := ex_st cal (s := s_ild 1 2) rfl rfl
theorem u_R_isLone_2 (hl : Nat.ble st.length 4 = true) : ex cal k_R_isLone 2 (ls) (aI z0 :: aQ (some a) :: st) h = gO h a 10 (kk cal k_R_isLone 5 ls st (cal M_R_lostBy [aQ (some a), aI z0] h)) := e_callV cal (ci := 10) (as := [aI z0]) rfl (by decide) rfl (Nat.le_of_ble_eq_true hl)
theorem u_R_isLone_5 (hx : aNl x1 = true) : ex cal k_R_isLone 5 (x0 :: x1 :: y :: ls) (aI v :: st) h = ex cal k_R_isLone 6 (x0 :: x1 :: aI v :: ls) (st) h := e_ist (ls := x0 :: x1 :: y :: ls) (k := 2) rfl hx (by simp only [List.length_cons]; omega)
theorem u_R_isLone_6 : ex cal k_R_isLone 6 (ls) (st) h = ex cal k_R_isLone 7 (ls) (aI 0 :: st) h := e_push cal rfl
theorem u_R_isLone_7 (hx : aNl x2 = true) : ex cal k_R_isLone 7 (x0 :: x1 :: x2 :: y :: ls) (aI v :: st) h = ex cal k_R_isLone 8 (x0 :: x1 :: x2 :: aI v :: ls) (st) h := e_ist (ls := x0 :: x1 :: x2 :: y :: ls) (k := 3) rfl hx (by simp only [List.length_cons]; omega)
theorem u_R_isLone_8 : ex cal k_R_isLone 8 (x0 :: x1 :: x2 :: aI v :: ls) (st) h = ex cal k_R_isLone 9 (x0 :: x1 :: x2 :: aI v :: ls) (aI v :: st) h := ex_st cal (s := s_ild 3 9) rfl rfl
theorem u_R_isLone_9 : ex cal k_R_isLone 9 (ls) (st) h = ex cal k_R_isLone 11 (ls) (aI 8 :: st) h := e_push cal rfl
theorem u_R_isLone_11 : ex cal k_R_isLone 11 (ls) (aI j :: aI i :: st) h = if wr i < wr j then ex cal k_R_isLone 14 (ls) (st) h else ex cal k_R_isLone 45 (ls) (st) h := e_icge cal rfl
theorem u_R_isLone_14 : ex cal k_R_isLone 14 (x0 :: aI v :: ls) (st) h = ex cal k_R_isLone 15 (x0 :: aI v :: ls) (aI v :: st) h := ex_st cal (s := s_ild 1 15) rfl rfl
theorem u_R_isLone_15 : ex cal k_R_isLone 15 (x0 :: x1 :: x2 :: aI v :: ls) (st) h = ex cal k_R_isLone 16 (x0 :: x1 :: x2 :: aI v :: ls) (aI v :: st) h := ex_st cal (s := s_ild 3 16) rfl rfl
theorem u_R_isLone_16 : ex cal k_R_isLone 16 (ls) (aI j :: aI i :: st) h = ex cal k_R_isLone 17 (ls) (aI (wshr i j) :: st) h := e_bin cal rfl
theorem u_R_isLone_17 : ex cal k_R_isLone 17 (ls) (st) h = ex cal k_R_isLone 18 (ls) (aI 1 :: st) h := e_push cal rfl
theorem u_R_isLone_18 : ex cal k_R_isLone 18 (ls) (aI j :: aI i :: st) h = ex cal k_R_isLone 19 (ls) (aI (wand i j) :: st) h := e_bin cal rfl
theorem u_R_isLone_19 : ex cal k_R_isLone 19 (ls) (st) h = ex cal k_R_isLone 20 (ls) (aI 1 :: st) h := e_push cal rfl
theorem u_R_isLone_20 : ex cal k_R_isLone 20 (ls) (aI j :: aI i :: st) h = if wr i = wr j then ex cal k_R_isLone 23 (ls) (st) h else ex cal k_R_isLone 39 (ls) (st) h := e_icne cal rfl
theorem u_R_isLone_23 : ex cal k_R_isLone 23 (x0 :: x1 :: aI v :: ls) (st) h = ex cal k_R_isLone 24 (x0 :: x1 :: aI v :: ls) (aI v :: st) h := ex_st cal (s := s_ild 2 24) rfl rfl
theorem u_R_isLone_24 : ex cal k_R_isLone 24 (aQ r :: ls) (st) h = ex cal k_R_isLone 25 (aQ r :: ls) (aQ r :: st) h := ex_st cal (s := s_ald 0 25) rfl rfl
theorem u_R_isLone_25 : ex cal k_R_isLone 25 (x0 :: aI v :: ls) (st) h = ex cal k_R_isLone 26 (x0 :: aI v :: ls) (aI v :: st) h := ex_st cal (s := s_ild 1 26) rfl rfl
theorem u_R_isLone_26 : ex cal k_R_isLone 26 (ls) (st) h = ex cal k_R_isLone 27 (ls) (aI 1 :: st) h := e_push cal rfl
theorem u_R_isLone_27 : ex cal k_R_isLone 27 (x0 :: x1 :: x2 :: aI v :: ls) (st) h = ex cal k_R_isLone 28 (x0 :: x1 :: x2 :: aI v :: ls) (aI v :: st) h := ex_st cal (s := s_ild 3 28) rfl rfl
theorem u_R_isLone_28 : ex cal k_R_isLone 28 (ls) (aI j :: aI i :: st) h = ex cal k_R_isLone 29 (ls) (aI (wshl i j) :: st) h := e_bin cal rfl
theorem u_R_isLone_29 : ex cal k_R_isLone 29 (ls) (st) h = ex cal k_R_isLone 30 (ls) (aI (-1) :: st) h := e_push cal rfl
theorem u_R_isLone_30 : ex cal k_R_isLone 30 (ls) (aI j :: aI i :: st) h = ex cal k_R_isLone 31 (ls) (aI (wxor i j) :: st) h := e_bin cal rfl
theorem u_R_isLone_31 : ex cal k_R_isLone 31 (ls) (aI j :: aI i :: st) h = ex cal k_R_isLone 32 (ls) (aI (wand i j) :: st) h := e_bin cal rfl
theorem u_R_isLone_32 (hl : Nat.ble st.length 4 = true) : ex cal k_R_isLone 32 (ls) (aI z0 :: aQ (some a) :: st) h = gO h a 10 (kk cal k_R_isLone 35 ls st (cal M_R_lostBy [aQ (some a), aI z0] h)) := e_callV cal (ci := 10) (as := [aI z0]) rfl (by decide) rfl (Nat.le_of_ble_eq_true hl)
theorem u_R_isLone_35 : ex cal k_R_isLone 35 (ls) (st) h = ex cal k_R_isLone 36 (ls) (aI (-1) :: st) h := e_push cal rfl
theorem u_R_isLone_36 : ex cal k_R_isLone 36 (ls) (aI j :: aI i :: st) h = ex cal k_R_isLone 37 (ls) (aI (wxor i j) :: st) h := e_bin cal rfl
theorem u_R_isLone_37 : ex cal k_R_isLone 37 (ls) (aI j :: aI i :: st) h = ex cal k_R_isLone 38 (ls) (aI (wand i j) :: st) h := e_bin cal rfl
theorem u_R_isLone_38 (hx : aNl x1 = true) : ex cal k_R_isLone 38 (x0 :: x1 :: y :: ls) (aI v :: st) h = ex cal k_R_isLone 39 (x0 :: x1 :: aI v :: ls) (st) h := e_ist (ls := x0 :: x1 :: y :: ls) (k := 2) rfl hx (by simp only [List.length_cons]; omega)
theorem u_R_isLone_39 (hx : aNl x2 = true) : ex cal k_R_isLone 39 (x0 :: x1 :: x2 :: aI v :: ls) (st) h = ex cal k_R_isLone 42 (x0 :: x1 :: x2 :: aI (v + 1) :: ls) (st) h := e_inc (ls := x0 :: x1 :: x2 :: aI v :: ls) (k := 3) rfl rfl hx
theorem u_R_isLone_42 : ex cal k_R_isLone 42 (ls) (st) h = ex cal k_R_isLone 8 (ls) (st) h := ex_st cal (s := s_go 8) rfl rfl
theorem u_R_isLone_45 : ex cal k_R_isLone 45 (x0 :: x1 :: aI v :: ls) (st) h = ex cal k_R_isLone 46 (x0 :: x1 :: aI v :: ls) (aI v :: st) h := ex_st cal (s := s_ild 2 46) rfl rfl
theorem u_R_isLone_46 : ex cal k_R_isLone 46 (ls) (aI i :: st) h = if wr i = 0 then ex cal k_R_isLone 53 (ls) (st) h else ex cal k_R_isLone 49 (ls) (st) h := e_ifeq cal rfl
theorem u_R_isLone_49 : ex cal k_R_isLone 49 (ls) (st) h = ex cal k_R_isLone 50 (ls) (aI 1 :: st) h := e_push cal rfl
theorem u_R_isLone_50 : ex cal k_R_isLone 50 (ls) (st) h = ex cal k_R_isLone 54 (ls) (st) h := ex_st cal (s := s_go 54) rfl rfl
theorem u_R_isLone_53 : ex cal k_R_isLone 53 (ls) (st) h = ex cal k_R_isLone 54 (ls) (aI 0 :: st) h := e_push cal rfl
theorem u_R_isLone_54 (hv : v = 0 ∨ v = 1) : ex cal k_R_isLone 54 (ls) ([aI v]) h = some (some (aI v), h) := e_ret22 rfl hv
theorem n_R_isLone (d : Nat) : ev (d + 1) M_R_isLone [aQ (some a), aI z0] h = ex (ev d) k_R_isLone 0 [aQ (some a), aI z0, aU, aU] [] h := rfl
theorem u_R_loneAt_0 : ex cal k_R_loneAt 0 (aQ r :: ls) (st) h = ex cal k_R_loneAt 1 (aQ r :: ls) (aQ r :: st) h := ex_st cal (s := s_ald 0 1) rfl rfl
theorem u_R_loneAt_1 (hl : Nat.ble st.length 4 = true) : ex cal k_R_loneAt 1 (ls) (aQ (some a) :: st) h = gO h a 10 (kk cal k_R_loneAt 4 ls st (cal M_R_findAbles [aQ (some a)] h)) := e_callV cal (ci := 10) (as := []) rfl (by decide) rfl (Nat.le_of_ble_eq_true hl)
theorem u_R_loneAt_4 : ex cal k_R_loneAt 4 (aQ r :: ls) (st) h = ex cal k_R_loneAt 5 (aQ r :: ls) (aQ r :: st) h := ex_st cal (s := s_ald 0 5) rfl rfl
theorem u_R_loneAt_5 : ex cal k_R_loneAt 5 (ls) (st) h = ex cal k_R_loneAt 6 (ls) (aI 0 :: st) h := e_push cal rfl
theorem u_R_loneAt_6 : ex cal k_R_loneAt 6 (ls) (aI v :: aQ (some a) :: st) h = gO h a 10 (ex cal k_R_loneAt 9 (ls) (st) (pf h a 23 (aI v))) := e_pf1 rfl rfl
theorem u_R_loneAt_9 : ex cal k_R_loneAt 9 (ls) (st) h = ex cal k_R_loneAt 10 (ls) (aI 1 :: st) h := e_push cal rfl
theorem u_R_loneAt_10 (hx : aNl x1 = true) : ex cal k_R_loneAt 10 (x0 :: x1 :: y :: ls) (aI v :: st) h = ex cal k_R_loneAt 11 (x0 :: x1 :: aI v :: ls) (st) h := e_ist (ls := x0 :: x1 :: y :: ls) (k := 2) rfl hx (by simp only [List.length_cons]; omega)
theorem u_R_loneAt_11 : ex cal k_R_loneAt 11 (x0 :: x1 :: aI v :: ls) (st) h = ex cal k_R_loneAt 12 (x0 :: x1 :: aI v :: ls) (aI v :: st) h := ex_st cal (s := s_ild 2 12) rfl rfl
theorem u_R_loneAt_12 : ex cal k_R_loneAt 12 (ls) (st) h = ex cal k_R_loneAt 13 (ls) (aI 3 :: st) h := e_push cal rfl
theorem u_R_loneAt_13 : ex cal k_R_loneAt 13 (ls) (aI j :: aI i :: st) h = if wr j < wr i then ex cal k_R_loneAt 89 (ls) (st) h else ex cal k_R_loneAt 16 (ls) (st) h := e_icgt cal rfl
theorem u_R_loneAt_16 : ex cal k_R_loneAt 16 (ls) (st) h = ex cal k_R_loneAt 17 (ls) (aI 1 :: st) h := e_push cal rfl
theorem u_R_loneAt_17 (hx : aNl x2 = true) : ex cal k_R_loneAt 17 (x0 :: x1 :: x2 :: y :: ls) (aI v :: st) h = ex cal k_R_loneAt 18 (x0 :: x1 :: x2 :: aI v :: ls) (st) h := e_ist (ls := x0 :: x1 :: x2 :: y :: ls) (k := 3) rfl hx (by simp only [List.length_cons]; omega)
theorem u_R_loneAt_18 : ex cal k_R_loneAt 18 (x0 :: x1 :: x2 :: aI v :: ls) (st) h = ex cal k_R_loneAt 19 (x0 :: x1 :: x2 :: aI v :: ls) (aI v :: st) h := ex_st cal (s := s_ild 3 19) rfl rfl
theorem u_R_loneAt_19 : ex cal k_R_loneAt 19 (ls) (st) h = ex cal k_R_loneAt 22 (ls) (aI 256 :: st) h := e_push cal rfl
theorem u_R_loneAt_22 : ex cal k_R_loneAt 22 (ls) (aI j :: aI i :: st) h = if wr i < wr j then ex cal k_R_loneAt 25 (ls) (st) h else ex cal k_R_loneAt 83 (ls) (st) h := e_icge cal rfl
theorem u_R_loneAt_25 : ex cal k_R_loneAt 25 (x0 :: x1 :: x2 :: aI v :: ls) (st) h = ex cal k_R_loneAt 26 (x0 :: x1 :: x2 :: aI v :: ls) (aI v :: st) h := ex_st cal (s := s_ild 3 26) rfl rfl
theorem u_R_loneAt_26 (hl : Nat.ble st.length 4 = true) : ex cal k_R_loneAt 26 (ls) (aI z0 :: st) h = kk cal k_R_loneAt 29 ls st (cal M_R_bits [aI z0] h) := e_call cal (as := [aI z0]) rfl rfl (Nat.le_of_ble_eq_true hl)
theorem u_R_loneAt_29 : ex cal k_R_loneAt 29 (x0 :: x1 :: aI v :: ls) (st) h = ex cal k_R_loneAt 30 (x0 :: x1 :: aI v :: ls) (aI v :: st) h := ex_st cal (s := s_ild 2 30) rfl rfl
theorem u_R_loneAt_30 : ex cal k_R_loneAt 30 (ls) (aI j :: aI i :: st) h = if wr i = wr j then ex cal k_R_loneAt 33 (ls) (st) h else ex cal k_R_loneAt 77 (ls) (st) h := e_icne cal rfl
theorem u_R_loneAt_33 : ex cal k_R_loneAt 33 (x0 :: x1 :: x2 :: aI v :: ls) (st) h = ex cal k_R_loneAt 34 (x0 :: x1 :: x2 :: aI v :: ls) (aI v :: st) h := ex_st cal (s := s_ild 3 34) rfl rfl
theorem u_R_loneAt_34 : ex cal k_R_loneAt 34 (aQ r :: ls) (st) h = ex cal k_R_loneAt 35 (aQ r :: ls) (aQ r :: st) h := ex_st cal (s := s_ald 0 35) rfl rfl
theorem u_R_loneAt_35 : ex cal k_R_loneAt 35 (ls) (aQ (some a) :: st) h = gO h a 10 (ex cal k_R_loneAt 38 (ls) (gf h a 14 :: st) h) := e_gf cal rfl
theorem u_R_loneAt_38 : ex cal k_R_loneAt 38 (ls) (st) h = ex cal k_R_loneAt 39 (ls) (aI 3 :: st) h := e_push cal rfl
theorem u_R_loneAt_39 : ex cal k_R_loneAt 39 (ls) (aI i :: aQ (some a) :: st) h = gA h a i (ex cal k_R_loneAt 40 (ls) (aI (ai h a (wr i)) :: st) h) := e_ia cal rfl
theorem u_R_loneAt_40 : ex cal k_R_loneAt 40 (ls) (st) h = ex cal k_R_loneAt 41 (ls) (aI (-1) :: st) h := e_push cal rfl
theorem u_R_loneAt_41 : ex cal k_R_loneAt 41 (ls) (aI j :: aI i :: st) h = ex cal k_R_loneAt 42 (ls) (aI (wxor i j) :: st) h := e_bin cal rfl
theorem u_R_loneAt_42 : ex cal k_R_loneAt 42 (ls) (aI j :: aI i :: st) h = ex cal k_R_loneAt 43 (ls) (aI (wand i j) :: st) h := e_bin cal rfl
theorem u_R_loneAt_43 : ex cal k_R_loneAt 43 (ls) (aI i :: st) h = if wr i = 0 then ex cal k_R_loneAt 46 (ls) (st) h else ex cal k_R_loneAt 77 (ls) (st) h := e_ifne cal rfl
theorem u_R_loneAt_46 : ex cal k_R_loneAt 46 (aQ r :: ls) (st) h = ex cal k_R_loneAt 47 (aQ r :: ls) (aQ r :: st) h := ex_st cal (s := s_ald 0 47) rfl rfl
theorem u_R_loneAt_47 : ex cal k_R_loneAt 47 (x0 :: x1 :: x2 :: aI v :: ls) (st) h = ex cal k_R_loneAt 48 (x0 :: x1 :: x2 :: aI v :: ls) (aI v :: st) h := ex_st cal (s := s_ild 3 48) rfl rfl
theorem u_R_loneAt_48 (hl : Nat.ble st.length 4 = true) : ex cal k_R_loneAt 48 (ls) (aI z0 :: aQ (some a) :: st) h = gO h a 10 (kk cal k_R_loneAt 51 ls st (cal M_R_isLone [aQ (some a), aI z0] h)) := e_callV cal (ci := 10) (as := [aI z0]) rfl (by decide) rfl (Nat.le_of_ble_eq_true hl)
theorem u_R_loneAt_51 : ex cal k_R_loneAt 51 (ls) (aI i :: st) h = if wr i = 0 then ex cal k_R_loneAt 54 (ls) (st) h else ex cal k_R_loneAt 57 (ls) (st) h := e_ifne cal rfl
theorem u_R_loneAt_54 : ex cal k_R_loneAt 54 (ls) (st) h = ex cal k_R_loneAt 77 (ls) (st) h := ex_st cal (s := s_go 77) rfl rfl
theorem u_R_loneAt_57 : ex cal k_R_loneAt 57 (aQ r :: ls) (st) h = ex cal k_R_loneAt 58 (aQ r :: ls) (aQ r :: st) h := ex_st cal (s := s_ald 0 58) rfl rfl
theorem u_R_loneAt_58 : ex cal k_R_loneAt 58 (ls) (aQ (some a) :: st) h = gO h a 10 (ex cal k_R_loneAt 61 (ls) (gf h a 23 :: st) h) := e_gf cal rfl
theorem u_R_loneAt_61 : ex cal k_R_loneAt 61 (x0 :: aI v :: ls) (st) h = ex cal k_R_loneAt 62 (x0 :: aI v :: ls) (aI v :: st) h := ex_st cal (s := s_ild 1 62) rfl rfl
theorem u_R_loneAt_62 : ex cal k_R_loneAt 62 (ls) (aI j :: aI i :: st) h = if wr i = wr j then ex cal k_R_loneAt 65 (ls) (st) h else ex cal k_R_loneAt 67 (ls) (st) h := e_icne cal rfl
theorem u_R_loneAt_65 : ex cal k_R_loneAt 65 (x0 :: x1 :: x2 :: aI v :: ls) (st) h = ex cal k_R_loneAt 66 (x0 :: x1 :: x2 :: aI v :: ls) (aI v :: st) h := ex_st cal (s := s_ild 3 66) rfl rfl
theorem u_R_loneAt_66 : ex cal k_R_loneAt 66 (ls) ([aI v]) h = some (some (aI v), h) := e_ret1 cal rfl
theorem u_R_loneAt_67 : ex cal k_R_loneAt 67 (aQ r :: ls) (st) h = ex cal k_R_loneAt 68 (aQ r :: ls) (aQ r :: st) h := ex_st cal (s := s_ald 0 68) rfl rfl
theorem u_R_loneAt_68 (hx : aNl y = true) : ex cal k_R_loneAt 68 (ls) (y :: st) h = ex cal k_R_loneAt 69 (ls) (y :: y :: st) h := e_dup rfl hx
theorem u_R_loneAt_69 : ex cal k_R_loneAt 69 (ls) (aQ (some a) :: st) h = gO h a 10 (ex cal k_R_loneAt 72 (ls) (gf h a 23 :: st) h) := e_gf cal rfl
theorem u_R_loneAt_72 : ex cal k_R_loneAt 72 (ls) (st) h = ex cal k_R_loneAt 73 (ls) (aI 1 :: st) h := e_push cal rfl
theorem u_R_loneAt_73 : ex cal k_R_loneAt 73 (ls) (aI j :: aI i :: st) h = ex cal k_R_loneAt 74 (ls) (aI (i + j) :: st) h := e_bin cal rfl
theorem u_R_loneAt_74 : ex cal k_R_loneAt 74 (ls) (aI v :: aQ (some a) :: st) h = gO h a 10 (ex cal k_R_loneAt 77 (ls) (st) (pf h a 23 (aI v))) := e_pf1 rfl rfl
theorem u_R_loneAt_77 (hx : aNl x2 = true) : ex cal k_R_loneAt 77 (x0 :: x1 :: x2 :: aI v :: ls) (st) h = ex cal k_R_loneAt 80 (x0 :: x1 :: x2 :: aI (v + 1) :: ls) (st) h := e_inc (ls := x0 :: x1 :: x2 :: aI v :: ls) (k := 3) rfl rfl hx
theorem u_R_loneAt_80 : ex cal k_R_loneAt 80 (ls) (st) h = ex cal k_R_loneAt 18 (ls) (st) h := ex_st cal (s := s_go 18) rfl rfl
theorem u_R_loneAt_83 (hx : aNl x1 = true) : ex cal k_R_loneAt 83 (x0 :: x1 :: aI v :: ls) (st) h = ex cal k_R_loneAt 86 (x0 :: x1 :: aI (v + 1) :: ls) (st) h := e_inc (ls := x0 :: x1 :: aI v :: ls) (k := 2) rfl rfl hx
theorem u_R_loneAt_86 : ex cal k_R_loneAt 86 (ls) (st) h = ex cal k_R_loneAt 11 (ls) (st) h := ex_st cal (s := s_go 11) rfl rfl
theorem u_R_loneAt_89 : ex cal k_R_loneAt 89 (ls) (st) h = ex cal k_R_loneAt 90 (ls) (aI (-1) :: st) h := e_push cal rfl
theorem u_R_loneAt_90 : ex cal k_R_loneAt 90 (ls) ([aI v]) h = some (some (aI v), h) := e_ret1 cal rfl
theorem n_R_loneAt (d : Nat) : ev (d + 1) M_R_loneAt [aQ (some a), aI z0] h = ex (ev d) k_R_loneAt 0 [aQ (some a), aI z0, aU, aU] [] h := rfl
theorem u_R_lone_0 : ex cal k_R_lone 0 (x0 :: aI v :: ls) (st) h = ex cal k_R_lone 1 (x0 :: aI v :: ls) (aI v :: st) h := ex_st cal (s := s_ild 1 1) rfl rfl
theorem u_R_lone_1 : ex cal k_R_lone 1 (ls) (aI i :: st) h = if wr i < 0 then ex cal k_R_lone 4 (ls) (st) h else ex cal k_R_lone 8 (ls) (st) h := e_ifge cal rfl
theorem u_R_lone_4 : ex cal k_R_lone 4 (ls) (st) h = ex cal k_R_lone 5 (ls) (aI (-1) :: st) h := e_push cal rfl
theorem u_R_lone_5 : ex cal k_R_lone 5 (ls) (st) h = ex cal k_R_lone 13 (ls) (st) h := ex_st cal (s := s_go 13) rfl rfl
theorem u_R_lone_8 : ex cal k_R_lone 8 (aQ r :: ls) (st) h = ex cal k_R_lone 9 (aQ r :: ls) (aQ r :: st) h := ex_st cal (s := s_ald 0 9) rfl rfl
theorem u_R_lone_9 : ex cal k_R_lone 9 (x0 :: aI v :: ls) (st) h = ex cal k_R_lone 10 (x0 :: aI v :: ls) (aI v :: st) h := ex_st cal (s := s_ild 1 10) rfl rfl
theorem u_R_lone_10 (hl : Nat.ble st.length 4 = true) : ex cal k_R_lone 10 (ls) (aI z0 :: aQ (some a) :: st) h = gO h a 10 (kk cal k_R_lone 13 ls st (cal M_R_loneAt [aQ (some a), aI z0] h)) := e_callV cal (ci := 10) (as := [aI z0]) rfl (by decide) rfl (Nat.le_of_ble_eq_true hl)
theorem u_R_lone_13 : ex cal k_R_lone 13 (ls) ([aI v]) h = some (some (aI v), h) := e_ret1 cal rfl
theorem n_R_lone (d : Nat) : ev (d + 1) M_R_lone [aQ (some a), aI z0] h = ex (ev d) k_R_lone 0 [aQ (some a), aI z0] [] h := rfl
theorem u_R_cover_0 : ex cal k_R_cover 0 (aQ r :: ls) (st) h = ex cal k_R_cover 1 (aQ r :: ls) (aQ r :: st) h := ex_st cal (s := s_ald 0 1) rfl rfl
theorem u_R_cover_1 (hl : Nat.ble st.length 4 = true) : ex cal k_R_cover 1 (ls) (aQ (some a) :: st) h = gO h a 10 (kk cal k_R_cover 4 ls st (cal M_R_findAbles [aQ (some a)] h)) := e_callV cal (ci := 10) (as := []) rfl (by decide) rfl (Nat.le_of_ble_eq_true hl)
theorem u_R_cover_4 : ex cal k_R_cover 4 (ls) (st) h = ex cal k_R_cover 5 (ls) (aI 0 :: st) h := e_push cal rfl
theorem u_R_cover_5 (hx : aNl x0 = true) : ex cal k_R_cover 5 (x0 :: y :: ls) (aI v :: st) h = ex cal k_R_cover 6 (x0 :: aI v :: ls) (st) h := e_ist (ls := x0 :: y :: ls) (k := 1) rfl hx (by simp only [List.length_cons]; omega)
theorem u_R_cover_6 : ex cal k_R_cover 6 (x0 :: aI v :: ls) (st) h = ex cal k_R_cover 7 (x0 :: aI v :: ls) (aI v :: st) h := ex_st cal (s := s_ild 1 7) rfl rfl
theorem u_R_cover_7 : ex cal k_R_cover 7 (ls) (st) h = ex cal k_R_cover 9 (ls) (aI 8 :: st) h := e_push cal rfl
theorem u_R_cover_9 : ex cal k_R_cover 9 (ls) (aI j :: aI i :: st) h = if wr j < wr i then ex cal k_R_cover 64 (ls) (st) h else ex cal k_R_cover 12 (ls) (st) h := e_icgt cal rfl
theorem u_R_cover_12 : ex cal k_R_cover 12 (ls) (st) h = ex cal k_R_cover 13 (ls) (aI 0 :: st) h := e_push cal rfl
theorem u_R_cover_13 (hx : aNl x1 = true) : ex cal k_R_cover 13 (x0 :: x1 :: y :: ls) (aI v :: st) h = ex cal k_R_cover 14 (x0 :: x1 :: aI v :: ls) (st) h := e_ist (ls := x0 :: x1 :: y :: ls) (k := 2) rfl hx (by simp only [List.length_cons]; omega)
theorem u_R_cover_14 : ex cal k_R_cover 14 (x0 :: x1 :: aI v :: ls) (st) h = ex cal k_R_cover 15 (x0 :: x1 :: aI v :: ls) (aI v :: st) h := ex_st cal (s := s_ild 2 15) rfl rfl
theorem u_R_cover_15 : ex cal k_R_cover 15 (ls) (st) h = ex cal k_R_cover 18 (ls) (aI 256 :: st) h := e_push cal rfl
theorem u_R_cover_18 : ex cal k_R_cover 18 (ls) (aI j :: aI i :: st) h = if wr i < wr j then ex cal k_R_cover 21 (ls) (st) h else ex cal k_R_cover 58 (ls) (st) h := e_icge cal rfl
theorem u_R_cover_21 : ex cal k_R_cover 21 (x0 :: x1 :: aI v :: ls) (st) h = ex cal k_R_cover 22 (x0 :: x1 :: aI v :: ls) (aI v :: st) h := ex_st cal (s := s_ild 2 22) rfl rfl
theorem u_R_cover_22 (hl : Nat.ble st.length 4 = true) : ex cal k_R_cover 22 (ls) (aI z0 :: st) h = kk cal k_R_cover 25 ls st (cal M_R_bits [aI z0] h) := e_call cal (as := [aI z0]) rfl rfl (Nat.le_of_ble_eq_true hl)
theorem u_R_cover_25 : ex cal k_R_cover 25 (x0 :: aI v :: ls) (st) h = ex cal k_R_cover 26 (x0 :: aI v :: ls) (aI v :: st) h := ex_st cal (s := s_ild 1 26) rfl rfl
theorem u_R_cover_26 : ex cal k_R_cover 26 (ls) (aI j :: aI i :: st) h = if wr i = wr j then ex cal k_R_cover 29 (ls) (st) h else ex cal k_R_cover 52 (ls) (st) h := e_icne cal rfl
theorem u_R_cover_29 : ex cal k_R_cover 29 (x0 :: x1 :: aI v :: ls) (st) h = ex cal k_R_cover 30 (x0 :: x1 :: aI v :: ls) (aI v :: st) h := ex_st cal (s := s_ild 2 30) rfl rfl
theorem u_R_cover_30 : ex cal k_R_cover 30 (aQ r :: ls) (st) h = ex cal k_R_cover 31 (aQ r :: ls) (aQ r :: st) h := ex_st cal (s := s_ald 0 31) rfl rfl
theorem u_R_cover_31 : ex cal k_R_cover 31 (ls) (aQ (some a) :: st) h = gO h a 10 (ex cal k_R_cover 34 (ls) (gf h a 14 :: st) h) := e_gf cal rfl
theorem u_R_cover_34 : ex cal k_R_cover 34 (ls) (st) h = ex cal k_R_cover 35 (ls) (aI 3 :: st) h := e_push cal rfl
theorem u_R_cover_35 : ex cal k_R_cover 35 (ls) (aI i :: aQ (some a) :: st) h = gA h a i (ex cal k_R_cover 36 (ls) (aI (ai h a (wr i)) :: st) h) := e_ia cal rfl
theorem u_R_cover_36 : ex cal k_R_cover 36 (ls) (st) h = ex cal k_R_cover 37 (ls) (aI (-1) :: st) h := e_push cal rfl
theorem u_R_cover_37 : ex cal k_R_cover 37 (ls) (aI j :: aI i :: st) h = ex cal k_R_cover 38 (ls) (aI (wxor i j) :: st) h := e_bin cal rfl
theorem u_R_cover_38 : ex cal k_R_cover 38 (ls) (aI j :: aI i :: st) h = ex cal k_R_cover 39 (ls) (aI (wand i j) :: st) h := e_bin cal rfl
theorem u_R_cover_39 : ex cal k_R_cover 39 (ls) (aI i :: st) h = if wr i = 0 then ex cal k_R_cover 42 (ls) (st) h else ex cal k_R_cover 52 (ls) (st) h := e_ifne cal rfl
theorem u_R_cover_42 : ex cal k_R_cover 42 (aQ r :: ls) (st) h = ex cal k_R_cover 43 (aQ r :: ls) (aQ r :: st) h := ex_st cal (s := s_ald 0 43) rfl rfl
theorem u_R_cover_43 : ex cal k_R_cover 43 (x0 :: x1 :: aI v :: ls) (st) h = ex cal k_R_cover 44 (x0 :: x1 :: aI v :: ls) (aI v :: st) h := ex_st cal (s := s_ild 2 44) rfl rfl
theorem u_R_cover_44 (hl : Nat.ble st.length 4 = true) : ex cal k_R_cover 44 (ls) (aI z0 :: aQ (some a) :: st) h = gO h a 10 (kk cal k_R_cover 47 ls st (cal M_R_covers [aQ (some a), aI z0] h)) := e_callV cal (ci := 10) (as := [aI z0]) rfl (by decide) rfl (Nat.le_of_ble_eq_true hl)
theorem u_R_cover_47 : ex cal k_R_cover 47 (ls) (aI i :: st) h = if wr i = 0 then ex cal k_R_cover 52 (ls) (st) h else ex cal k_R_cover 50 (ls) (st) h := e_ifeq cal rfl
theorem u_R_cover_50 : ex cal k_R_cover 50 (x0 :: x1 :: aI v :: ls) (st) h = ex cal k_R_cover 51 (x0 :: x1 :: aI v :: ls) (aI v :: st) h := ex_st cal (s := s_ild 2 51) rfl rfl
theorem u_R_cover_51 : ex cal k_R_cover 51 (ls) ([aI v]) h = some (some (aI v), h) := e_ret1 cal rfl
theorem u_R_cover_52 (hx : aNl x1 = true) : ex cal k_R_cover 52 (x0 :: x1 :: aI v :: ls) (st) h = ex cal k_R_cover 55 (x0 :: x1 :: aI (v + 1) :: ls) (st) h := e_inc (ls := x0 :: x1 :: aI v :: ls) (k := 2) rfl rfl hx
theorem u_R_cover_55 : ex cal k_R_cover 55 (ls) (st) h = ex cal k_R_cover 14 (ls) (st) h := ex_st cal (s := s_go 14) rfl rfl
theorem u_R_cover_58 (hx : aNl x0 = true) : ex cal k_R_cover 58 (x0 :: aI v :: ls) (st) h = ex cal k_R_cover 61 (x0 :: aI (v + 1) :: ls) (st) h := e_inc (ls := x0 :: aI v :: ls) (k := 1) rfl rfl hx
theorem u_R_cover_61 : ex cal k_R_cover 61 (ls) (st) h = ex cal k_R_cover 6 (ls) (st) h := ex_st cal (s := s_go 6) rfl rfl
theorem u_R_cover_64 : ex cal k_R_cover 64 (ls) (st) h = ex cal k_R_cover 65 (ls) (aI 0 :: st) h := e_push cal rfl
theorem u_R_cover_65 : ex cal k_R_cover 65 (ls) ([aI v]) h = some (some (aI v), h) := e_ret1 cal rfl
theorem n_R_cover (d : Nat) : ev (d + 1) M_R_cover [aQ (some a)] h = ex (ev d) k_R_cover 0 [aQ (some a), aU, aU] [] h := rfl
theorem u_R_covers_0 : ex cal k_R_covers 0 (ls) (st) h = ex cal k_R_covers 1 (ls) (aI 1 :: st) h := e_push cal rfl
theorem u_R_covers_1 (hx : aNl x1 = true) : ex cal k_R_covers 1 (x0 :: x1 :: y :: ls) (aI v :: st) h = ex cal k_R_covers 2 (x0 :: x1 :: aI v :: ls) (st) h := e_ist (ls := x0 :: x1 :: y :: ls) (k := 2) rfl hx (by simp only [List.length_cons]; omega)
theorem u_R_covers_2 : ex cal k_R_covers 2 (ls) (st) h = ex cal k_R_covers 3 (ls) (aI 0 :: st) h := e_push cal rfl
theorem u_R_covers_3 (hx : aNl x2 = true) : ex cal k_R_covers 3 (x0 :: x1 :: x2 :: y :: ls) (aI v :: st) h = ex cal k_R_covers 4 (x0 :: x1 :: x2 :: aI v :: ls) (st) h := e_ist (ls := x0 :: x1 :: x2 :: y :: ls) (k := 3) rfl hx (by simp only [List.length_cons]; omega)
theorem u_R_covers_4 : ex cal k_R_covers 4 (x0 :: x1 :: x2 :: aI v :: ls) (st) h = ex cal k_R_covers 5 (x0 :: x1 :: x2 :: aI v :: ls) (aI v :: st) h := ex_st cal (s := s_ild 3 5) rfl rfl
theorem u_R_covers_5 : ex cal k_R_covers 5 (ls) (st) h = ex cal k_R_covers 7 (ls) (aI 6 :: st) h := e_push cal rfl
theorem u_R_covers_7 : ex cal k_R_covers 7 (ls) (aI j :: aI i :: st) h = if wr i < wr j then ex cal k_R_covers 10 (ls) (st) h else ex cal k_R_covers 46 (ls) (st) h := e_icge cal rfl
theorem u_R_covers_10 : ex cal k_R_covers 10 (x0 :: x1 :: aI v :: ls) (st) h = ex cal k_R_covers 11 (x0 :: x1 :: aI v :: ls) (aI v :: st) h := ex_st cal (s := s_ild 2 11) rfl rfl
theorem u_R_covers_11 : ex cal k_R_covers 11 (ls) (aI i :: st) h = if wr i = 0 then ex cal k_R_covers 38 (ls) (st) h else ex cal k_R_covers 14 (ls) (st) h := e_ifeq cal rfl
theorem u_R_covers_14 : ex cal k_R_covers 14 (aQ r :: ls) (st) h = ex cal k_R_covers 15 (aQ r :: ls) (aQ r :: st) h := ex_st cal (s := s_ald 0 15) rfl rfl
theorem u_R_covers_15 : ex cal k_R_covers 15 (ls) (aQ (some a) :: st) h = gO h a 10 (ex cal k_R_covers 18 (ls) (gf h a 22 :: st) h) := e_gf cal rfl
theorem u_R_covers_18 : ex cal k_R_covers 18 (x0 :: x1 :: x2 :: aI v :: ls) (st) h = ex cal k_R_covers 19 (x0 :: x1 :: x2 :: aI v :: ls) (aI v :: st) h := ex_st cal (s := s_ild 3 19) rfl rfl
theorem u_R_covers_19 : ex cal k_R_covers 19 (ls) (aI i :: aQ (some a) :: st) h = gA h a i (ex cal k_R_covers 20 (ls) (aI (ai h a (wr i)) :: st) h) := e_ia cal rfl
theorem u_R_covers_20 : ex cal k_R_covers 20 (ls) (aI i :: st) h = if wr i = 0 then ex cal k_R_covers 34 (ls) (st) h else ex cal k_R_covers 23 (ls) (st) h := e_ifeq cal rfl
theorem u_R_covers_23 : ex cal k_R_covers 23 (aQ r :: ls) (st) h = ex cal k_R_covers 24 (aQ r :: ls) (aQ r :: st) h := ex_st cal (s := s_ald 0 24) rfl rfl
theorem u_R_covers_24 : ex cal k_R_covers 24 (ls) (aQ (some a) :: st) h = gO h a 10 (ex cal k_R_covers 27 (ls) (gf h a 22 :: st) h) := e_gf cal rfl
theorem u_R_covers_27 : ex cal k_R_covers 27 (x0 :: x1 :: x2 :: aI v :: ls) (st) h = ex cal k_R_covers 28 (x0 :: x1 :: x2 :: aI v :: ls) (aI v :: st) h := ex_st cal (s := s_ild 3 28) rfl rfl
theorem u_R_covers_28 : ex cal k_R_covers 28 (ls) (aI i :: aQ (some a) :: st) h = gA h a i (ex cal k_R_covers 29 (ls) (aI (ai h a (wr i)) :: st) h) := e_ia cal rfl
theorem u_R_covers_29 : ex cal k_R_covers 29 (x0 :: aI v :: ls) (st) h = ex cal k_R_covers 30 (x0 :: aI v :: ls) (aI v :: st) h := ex_st cal (s := s_ild 1 30) rfl rfl
theorem u_R_covers_30 : ex cal k_R_covers 30 (ls) (aI j :: aI i :: st) h = ex cal k_R_covers 31 (ls) (aI (wand i j) :: st) h := e_bin cal rfl
theorem u_R_covers_31 : ex cal k_R_covers 31 (ls) (aI i :: st) h = if wr i = 0 then ex cal k_R_covers 38 (ls) (st) h else ex cal k_R_covers 34 (ls) (st) h := e_ifeq cal rfl
theorem u_R_covers_34 : ex cal k_R_covers 34 (ls) (st) h = ex cal k_R_covers 35 (ls) (aI 1 :: st) h := e_push cal rfl
theorem u_R_covers_35 : ex cal k_R_covers 35 (ls) (st) h = ex cal k_R_covers 39 (ls) (st) h := ex_st cal (s := s_go 39) rfl rfl
theorem u_R_covers_38 : ex cal k_R_covers 38 (ls) (st) h = ex cal k_R_covers 39 (ls) (aI 0 :: st) h := e_push cal rfl
theorem u_R_covers_39 (hx : aNl x1 = true) : ex cal k_R_covers 39 (x0 :: x1 :: y :: ls) (aI v :: st) h = ex cal k_R_covers 40 (x0 :: x1 :: aI v :: ls) (st) h := e_ist (ls := x0 :: x1 :: y :: ls) (k := 2) rfl hx (by simp only [List.length_cons]; omega)
theorem u_R_covers_40 (hx : aNl x2 = true) : ex cal k_R_covers 40 (x0 :: x1 :: x2 :: aI v :: ls) (st) h = ex cal k_R_covers 43 (x0 :: x1 :: x2 :: aI (v + 1) :: ls) (st) h := e_inc (ls := x0 :: x1 :: x2 :: aI v :: ls) (k := 3) rfl rfl hx
theorem u_R_covers_43 : ex cal k_R_covers 43 (ls) (st) h = ex cal k_R_covers 4 (ls) (st) h := ex_st cal (s := s_go 4) rfl rfl
theorem u_R_covers_46 : ex cal k_R_covers 46 (x0 :: x1 :: aI v :: ls) (st) h = ex cal k_R_covers 47 (x0 :: x1 :: aI v :: ls) (aI v :: st) h := ex_st cal (s := s_ild 2 47) rfl rfl
theorem u_R_covers_47 (hv : v = 0 ∨ v = 1) : ex cal k_R_covers 47 (ls) ([aI v]) h = some (some (aI v), h) := e_ret22 rfl hv
theorem n_R_covers (d : Nat) : ev (d + 1) M_R_covers [aQ (some a), aI z0] h = ex (ev d) k_R_covers 0 [aQ (some a), aI z0, aU, aU] [] h := rfl
theorem u_R_findTasks_0 : ex cal k_R_findTasks 0 (ls) (st) h = ex cal k_R_findTasks 1 (ls) (aI 0 :: st) h := e_push cal rfl
theorem u_R_findTasks_1 (hx : aNl x0 = true) : ex cal k_R_findTasks 1 (x0 :: y :: ls) (aI v :: st) h = ex cal k_R_findTasks 2 (x0 :: aI v :: ls) (st) h := e_ist (ls := x0 :: y :: ls) (k := 1) rfl hx (by simp only [List.length_cons]; omega)
theorem u_R_findTasks_2 : ex cal k_R_findTasks 2 (x0 :: aI v :: ls) (st) h = ex cal k_R_findTasks 3 (x0 :: aI v :: ls) (aI v :: st) h := ex_st cal (s := s_ild 1 3) rfl rfl
theorem u_R_findTasks_3 : ex cal k_R_findTasks 3 (ls) (st) h = ex cal k_R_findTasks 5 (ls) (aI 8 :: st) h := e_push cal rfl
theorem u_R_findTasks_5 : ex cal k_R_findTasks 5 (ls) (aI j :: aI i :: st) h = if wr i < wr j then ex cal k_R_findTasks 8 (ls) (st) h else ex cal k_R_findTasks 65 (ls) (st) h := e_icge cal rfl
theorem u_R_findTasks_8 : ex cal k_R_findTasks 8 (ls) (st) h = ex cal k_R_findTasks 9 (ls) (aI 0 :: st) h := e_push cal rfl
theorem u_R_findTasks_9 (hx : aNl x1 = true) : ex cal k_R_findTasks 9 (x0 :: x1 :: y :: ls) (aI v :: st) h = ex cal k_R_findTasks 10 (x0 :: x1 :: aI v :: ls) (st) h := e_ist (ls := x0 :: x1 :: y :: ls) (k := 2) rfl hx (by simp only [List.length_cons]; omega)
theorem u_R_findTasks_10 : ex cal k_R_findTasks 10 (x0 :: x1 :: aI v :: ls) (st) h = ex cal k_R_findTasks 11 (x0 :: x1 :: aI v :: ls) (aI v :: st) h := ex_st cal (s := s_ild 2 11) rfl rfl
theorem u_R_findTasks_11 : ex cal k_R_findTasks 11 (ls) (st) h = ex cal k_R_findTasks 13 (ls) (aI 6 :: st) h := e_push cal rfl
theorem u_R_findTasks_13 : ex cal k_R_findTasks 13 (ls) (aI j :: aI i :: st) h = if wr i < wr j then ex cal k_R_findTasks 16 (ls) (st) h else ex cal k_R_findTasks 59 (ls) (st) h := e_icge cal rfl
theorem u_R_findTasks_16 : ex cal k_R_findTasks 16 (aQ r :: ls) (st) h = ex cal k_R_findTasks 17 (aQ r :: ls) (aQ r :: st) h := ex_st cal (s := s_ald 0 17) rfl rfl
theorem u_R_findTasks_17 : ex cal k_R_findTasks 17 (ls) (aQ (some a) :: st) h = gO h a 10 (ex cal k_R_findTasks 20 (ls) (gf h a 25 :: st) h) := e_gf cal rfl
theorem u_R_findTasks_20 : ex cal k_R_findTasks 20 (ls) (st) h = ex cal k_R_findTasks 22 (ls) (aI 6 :: st) h := e_push cal rfl
theorem u_R_findTasks_22 : ex cal k_R_findTasks 22 (x0 :: aI v :: ls) (st) h = ex cal k_R_findTasks 23 (x0 :: aI v :: ls) (aI v :: st) h := ex_st cal (s := s_ild 1 23) rfl rfl
theorem u_R_findTasks_23 : ex cal k_R_findTasks 23 (ls) (aI j :: aI i :: st) h = ex cal k_R_findTasks 24 (ls) (aI (i * j) :: st) h := e_bin cal rfl
theorem u_R_findTasks_24 : ex cal k_R_findTasks 24 (x0 :: x1 :: aI v :: ls) (st) h = ex cal k_R_findTasks 25 (x0 :: x1 :: aI v :: ls) (aI v :: st) h := ex_st cal (s := s_ild 2 25) rfl rfl
theorem u_R_findTasks_25 : ex cal k_R_findTasks 25 (ls) (aI j :: aI i :: st) h = ex cal k_R_findTasks 26 (ls) (aI (i + j) :: st) h := e_bin cal rfl
theorem u_R_findTasks_26 : ex cal k_R_findTasks 26 (aQ r :: ls) (st) h = ex cal k_R_findTasks 27 (aQ r :: ls) (aQ r :: st) h := ex_st cal (s := s_ald 0 27) rfl rfl
theorem u_R_findTasks_27 : ex cal k_R_findTasks 27 (x0 :: aI v :: ls) (st) h = ex cal k_R_findTasks 28 (x0 :: aI v :: ls) (aI v :: st) h := ex_st cal (s := s_ild 1 28) rfl rfl
theorem u_R_findTasks_28 (hl : Nat.ble st.length 4 = true) : ex cal k_R_findTasks 28 (ls) (aI z0 :: aQ (some a) :: st) h = gO h a 10 (kk cal k_R_findTasks 31 ls st (cal M_R_isPerson [aQ (some a), aI z0] h)) := e_callV cal (ci := 10) (as := [aI z0]) rfl (by decide) rfl (Nat.le_of_ble_eq_true hl)
theorem u_R_findTasks_31 : ex cal k_R_findTasks 31 (ls) (aI i :: st) h = if wr i = 0 then ex cal k_R_findTasks 51 (ls) (st) h else ex cal k_R_findTasks 34 (ls) (st) h := e_ifeq cal rfl
theorem u_R_findTasks_34 : ex cal k_R_findTasks 34 (aQ r :: ls) (st) h = ex cal k_R_findTasks 35 (aQ r :: ls) (aQ r :: st) h := ex_st cal (s := s_ald 0 35) rfl rfl
theorem u_R_findTasks_35 : ex cal k_R_findTasks 35 (x0 :: aI v :: ls) (st) h = ex cal k_R_findTasks 36 (x0 :: aI v :: ls) (aI v :: st) h := ex_st cal (s := s_ild 1 36) rfl rfl
theorem u_R_findTasks_36 (hl : Nat.ble st.length 4 = true) : ex cal k_R_findTasks 36 (ls) (aI z0 :: aQ (some a) :: st) h = gO h a 10 (kk cal k_R_findTasks 39 ls st (cal M_R_isHere [aQ (some a), aI z0] h)) := e_callV cal (ci := 10) (as := [aI z0]) rfl (by decide) rfl (Nat.le_of_ble_eq_true hl)
theorem u_R_findTasks_39 : ex cal k_R_findTasks 39 (ls) (aI i :: st) h = if wr i = 0 then ex cal k_R_findTasks 51 (ls) (st) h else ex cal k_R_findTasks 42 (ls) (st) h := e_ifeq cal rfl
theorem u_R_findTasks_42 : ex cal k_R_findTasks 42 (aQ r :: ls) (st) h = ex cal k_R_findTasks 43 (aQ r :: ls) (aQ r :: st) h := ex_st cal (s := s_ald 0 43) rfl rfl
theorem u_R_findTasks_43 : ex cal k_R_findTasks 43 (x0 :: aI v :: ls) (st) h = ex cal k_R_findTasks 44 (x0 :: aI v :: ls) (aI v :: st) h := ex_st cal (s := s_ild 1 44) rfl rfl
theorem u_R_findTasks_44 : ex cal k_R_findTasks 44 (x0 :: x1 :: aI v :: ls) (st) h = ex cal k_R_findTasks 45 (x0 :: x1 :: aI v :: ls) (aI v :: st) h := ex_st cal (s := s_ild 2 45) rfl rfl
theorem u_R_findTasks_45 (hl : Nat.ble st.length 4 = true) : ex cal k_R_findTasks 45 (ls) (aI z1 :: aI z0 :: aQ (some a) :: st) h = gO h a 10 (kk cal k_R_findTasks 48 ls st (cal M_R_taskOf [aQ (some a), aI z0, aI z1] h)) := e_callV cal (ci := 10) (as := [aI z1, aI z0]) rfl (by decide) rfl (Nat.le_of_ble_eq_true hl)
theorem u_R_findTasks_48 : ex cal k_R_findTasks 48 (ls) (st) h = ex cal k_R_findTasks 52 (ls) (st) h := ex_st cal (s := s_go 52) rfl rfl
theorem u_R_findTasks_51 : ex cal k_R_findTasks 51 (ls) (st) h = ex cal k_R_findTasks 52 (ls) (aI 0 :: st) h := e_push cal rfl
theorem u_R_findTasks_52 (h3 : 3 ≤ a) : ex cal k_R_findTasks 52 (ls) (aI v :: aI i :: aQ (some a) :: st) h = gA h a i (ex cal k_R_findTasks 53 (ls) (st) (sa h a (upf (ai h a) (wr i) v))) := e_ias cal rfl h3
theorem u_R_findTasks_53 (hx : aNl x1 = true) : ex cal k_R_findTasks 53 (x0 :: x1 :: aI v :: ls) (st) h = ex cal k_R_findTasks 56 (x0 :: x1 :: aI (v + 1) :: ls) (st) h := e_inc (ls := x0 :: x1 :: aI v :: ls) (k := 2) rfl rfl hx
theorem u_R_findTasks_56 : ex cal k_R_findTasks 56 (ls) (st) h = ex cal k_R_findTasks 10 (ls) (st) h := ex_st cal (s := s_go 10) rfl rfl
theorem u_R_findTasks_59 (hx : aNl x0 = true) : ex cal k_R_findTasks 59 (x0 :: aI v :: ls) (st) h = ex cal k_R_findTasks 62 (x0 :: aI (v + 1) :: ls) (st) h := e_inc (ls := x0 :: aI v :: ls) (k := 1) rfl rfl hx
theorem u_R_findTasks_62 : ex cal k_R_findTasks 62 (ls) (st) h = ex cal k_R_findTasks 2 (ls) (st) h := ex_st cal (s := s_go 2) rfl rfl
theorem u_R_findTasks_65 : ex cal k_R_findTasks 65 (ls) ([]) h = some (none, h) := e_ret0 cal rfl
theorem n_R_findTasks (d : Nat) : ev (d + 1) M_R_findTasks [aQ (some a)] h = ex (ev d) k_R_findTasks 0 [aQ (some a), aU, aU] [] h := rfl
theorem u_R_taskOf_0 : ex cal k_R_taskOf 0 (aQ r :: ls) (st) h = ex cal k_R_taskOf 1 (aQ r :: ls) (aQ r :: st) h := ex_st cal (s := s_ald 0 1) rfl rfl
theorem u_R_taskOf_1 : ex cal k_R_taskOf 1 (x0 :: aI v :: ls) (st) h = ex cal k_R_taskOf 2 (x0 :: aI v :: ls) (aI v :: st) h := ex_st cal (s := s_ild 1 2) rfl rfl
theorem u_R_taskOf_2 : ex cal k_R_taskOf 2 (x0 :: x1 :: aI v :: ls) (st) h = ex cal k_R_taskOf 3 (x0 :: x1 :: aI v :: ls) (aI v :: st) h := ex_st cal (s := s_ild 2 3) rfl rfl
theorem u_R_taskOf_3 (hl : Nat.ble st.length 4 = true) : ex cal k_R_taskOf 3 (ls) (aI z1 :: aI z0 :: aQ (some a) :: st) h = gO h a 10 (kk cal k_R_taskOf 6 ls st (cal M_R_isAble [aQ (some a), aI z0, aI z1] h)) := e_callV cal (ci := 10) (as := [aI z1, aI z0]) rfl (by decide) rfl (Nat.le_of_ble_eq_true hl)
theorem u_R_taskOf_6 : ex cal k_R_taskOf 6 (ls) (aI i :: st) h = if wr i = 0 then ex cal k_R_taskOf 11 (ls) (st) h else ex cal k_R_taskOf 9 (ls) (st) h := e_ifeq cal rfl
theorem u_R_taskOf_9 : ex cal k_R_taskOf 9 (ls) (st) h = ex cal k_R_taskOf 10 (ls) (aI 0 :: st) h := e_push cal rfl
theorem u_R_taskOf_10 : ex cal k_R_taskOf 10 (ls) ([aI v]) h = some (some (aI v), h) := e_ret1 cal rfl
theorem u_R_taskOf_11 : ex cal k_R_taskOf 11 (ls) (st) h = ex cal k_R_taskOf 12 (ls) (aI 0 :: st) h := e_push cal rfl
theorem u_R_taskOf_12 (hx : aNl x2 = true) : ex cal k_R_taskOf 12 (x0 :: x1 :: x2 :: y :: ls) (aI v :: st) h = ex cal k_R_taskOf 13 (x0 :: x1 :: x2 :: aI v :: ls) (st) h := e_ist (ls := x0 :: x1 :: x2 :: y :: ls) (k := 3) rfl hx (by simp only [List.length_cons]; omega)
theorem u_R_taskOf_13 : ex cal k_R_taskOf 13 (ls) (st) h = ex cal k_R_taskOf 14 (ls) (aI 0 :: st) h := e_push cal rfl
theorem u_R_taskOf_14 (hx : aNl x3 = true) : ex cal k_R_taskOf 14 (x0 :: x1 :: x2 :: x3 :: y :: ls) (aI v :: st) h = ex cal k_R_taskOf 16 (x0 :: x1 :: x2 :: x3 :: aI v :: ls) (st) h := e_ist (ls := x0 :: x1 :: x2 :: x3 :: y :: ls) (k := 4) rfl hx (by simp only [List.length_cons]; omega)
theorem u_R_taskOf_16 : ex cal k_R_taskOf 16 (x0 :: x1 :: x2 :: x3 :: aI v :: ls) (st) h = ex cal k_R_taskOf 18 (x0 :: x1 :: x2 :: x3 :: aI v :: ls) (aI v :: st) h := ex_st cal (s := s_ild 4 18) rfl rfl
theorem u_R_taskOf_18 : ex cal k_R_taskOf 18 (aQ r :: ls) (st) h = ex cal k_R_taskOf 19 (aQ r :: ls) (aQ r :: st) h := ex_st cal (s := s_ald 0 19) rfl rfl
theorem u_R_taskOf_19 : ex cal k_R_taskOf 19 (ls) (aQ (some a) :: st) h = gO h a 10 (ex cal k_R_taskOf 22 (ls) (gf h a 1 :: st) h) := e_gf cal rfl
theorem u_R_taskOf_22 : ex cal k_R_taskOf 22 (x0 :: x1 :: aI v :: ls) (st) h = ex cal k_R_taskOf 23 (x0 :: x1 :: aI v :: ls) (aI v :: st) h := ex_st cal (s := s_ild 2 23) rfl rfl
theorem u_R_taskOf_23 : ex cal k_R_taskOf 23 (ls) (aI i :: aQ (some a) :: st) h = gA h a i (ex cal k_R_taskOf 24 (ls) (aI (ai h a (wr i)) :: st) h) := e_ia cal rfl
theorem u_R_taskOf_24 : ex cal k_R_taskOf 24 (ls) (aI j :: aI i :: st) h = if wr i < wr j then ex cal k_R_taskOf 27 (ls) (st) h else ex cal k_R_taskOf 95 (ls) (st) h := e_icge cal rfl
theorem u_R_taskOf_27 : ex cal k_R_taskOf 27 (aQ r :: ls) (st) h = ex cal k_R_taskOf 28 (aQ r :: ls) (aQ r :: st) h := ex_st cal (s := s_ald 0 28) rfl rfl
theorem u_R_taskOf_28 : ex cal k_R_taskOf 28 (ls) (aQ (some a) :: st) h = gO h a 10 (ex cal k_R_taskOf 31 (ls) (gf h a 0 :: st) h) := e_gf cal rfl
theorem u_R_taskOf_31 : ex cal k_R_taskOf 31 (ls) (st) h = ex cal k_R_taskOf 34 (ls) (aI 540 :: st) h := e_push cal rfl
theorem u_R_taskOf_34 : ex cal k_R_taskOf 34 (x0 :: x1 :: aI v :: ls) (st) h = ex cal k_R_taskOf 35 (x0 :: x1 :: aI v :: ls) (aI v :: st) h := ex_st cal (s := s_ild 2 35) rfl rfl
theorem u_R_taskOf_35 : ex cal k_R_taskOf 35 (ls) (aI j :: aI i :: st) h = ex cal k_R_taskOf 36 (ls) (aI (i * j) :: st) h := e_bin cal rfl
theorem u_R_taskOf_36 : ex cal k_R_taskOf 36 (ls) (st) h = ex cal k_R_taskOf 38 (ls) (aI 27 :: st) h := e_push cal rfl
theorem u_R_taskOf_38 : ex cal k_R_taskOf 38 (x0 :: x1 :: x2 :: x3 :: aI v :: ls) (st) h = ex cal k_R_taskOf 40 (x0 :: x1 :: x2 :: x3 :: aI v :: ls) (aI v :: st) h := ex_st cal (s := s_ild 4 40) rfl rfl
theorem u_R_taskOf_40 : ex cal k_R_taskOf 40 (ls) (aI j :: aI i :: st) h = ex cal k_R_taskOf 41 (ls) (aI (i * j) :: st) h := e_bin cal rfl
theorem u_R_taskOf_41 : ex cal k_R_taskOf 41 (ls) (aI j :: aI i :: st) h = ex cal k_R_taskOf 42 (ls) (aI (i + j) :: st) h := e_bin cal rfl
theorem u_R_taskOf_42 : ex cal k_R_taskOf 42 (ls) (st) h = ex cal k_R_taskOf 43 (ls) (aI 2 :: st) h := e_push cal rfl
theorem u_R_taskOf_43 : ex cal k_R_taskOf 43 (ls) (aI j :: aI i :: st) h = ex cal k_R_taskOf 44 (ls) (aI (i + j) :: st) h := e_bin cal rfl
theorem u_R_taskOf_44 : ex cal k_R_taskOf 44 (ls) (aI i :: aQ (some a) :: st) h = gA h a i (ex cal k_R_taskOf 45 (ls) (aI (ai h a (wr i)) :: st) h) := e_ia cal rfl
theorem u_R_taskOf_45 : ex cal k_R_taskOf 45 (ls) (st) h = ex cal k_R_taskOf 47 (ls) (aI 8 :: st) h := e_push cal rfl
theorem u_R_taskOf_47 : ex cal k_R_taskOf 47 (ls) (aI j :: aI i :: st) h = if wr i = wr j then ex cal k_R_taskOf 50 (ls) (st) h else ex cal k_R_taskOf 54 (ls) (st) h := e_icne cal rfl
theorem u_R_taskOf_50 : ex cal k_R_taskOf 50 (ls) (st) h = ex cal k_R_taskOf 51 (ls) (aI 1 :: st) h := e_push cal rfl
theorem u_R_taskOf_51 : ex cal k_R_taskOf 51 (ls) (st) h = ex cal k_R_taskOf 55 (ls) (st) h := ex_st cal (s := s_go 55) rfl rfl
theorem u_R_taskOf_54 : ex cal k_R_taskOf 54 (ls) (st) h = ex cal k_R_taskOf 55 (ls) (aI 0 :: st) h := e_push cal rfl
theorem u_R_taskOf_55 (hx : aNl x4 = true) : ex cal k_R_taskOf 55 (x0 :: x1 :: x2 :: x3 :: x4 :: y :: ls) (aI v :: st) h = ex cal k_R_taskOf 57 (x0 :: x1 :: x2 :: x3 :: x4 :: aI v :: ls) (st) h := e_ist (ls := x0 :: x1 :: x2 :: x3 :: x4 :: y :: ls) (k := 5) rfl hx (by simp only [List.length_cons]; omega)
theorem u_R_taskOf_57 : ex cal k_R_taskOf 57 (x0 :: x1 :: x2 :: aI v :: ls) (st) h = ex cal k_R_taskOf 58 (x0 :: x1 :: x2 :: aI v :: ls) (aI v :: st) h := ex_st cal (s := s_ild 3 58) rfl rfl
theorem u_R_taskOf_58 : ex cal k_R_taskOf 58 (aQ r :: ls) (st) h = ex cal k_R_taskOf 59 (aQ r :: ls) (aQ r :: st) h := ex_st cal (s := s_ald 0 59) rfl rfl
theorem u_R_taskOf_59 : ex cal k_R_taskOf 59 (x0 :: aI v :: ls) (st) h = ex cal k_R_taskOf 60 (x0 :: aI v :: ls) (aI v :: st) h := ex_st cal (s := s_ild 1 60) rfl rfl
theorem u_R_taskOf_60 : ex cal k_R_taskOf 60 (x0 :: x1 :: aI v :: ls) (st) h = ex cal k_R_taskOf 61 (x0 :: x1 :: aI v :: ls) (aI v :: st) h := ex_st cal (s := s_ild 2 61) rfl rfl
theorem u_R_taskOf_61 : ex cal k_R_taskOf 61 (x0 :: x1 :: x2 :: x3 :: aI v :: ls) (st) h = ex cal k_R_taskOf 63 (x0 :: x1 :: x2 :: x3 :: aI v :: ls) (aI v :: st) h := ex_st cal (s := s_ild 4 63) rfl rfl
theorem u_R_taskOf_63 : ex cal k_R_taskOf 63 (x0 :: x1 :: x2 :: x3 :: x4 :: aI v :: ls) (st) h = ex cal k_R_taskOf 65 (x0 :: x1 :: x2 :: x3 :: x4 :: aI v :: ls) (aI v :: st) h := ex_st cal (s := s_ild 5 65) rfl rfl
theorem u_R_taskOf_65 : ex cal k_R_taskOf 65 (ls) (aI i :: st) h = if wr i = 0 then ex cal k_R_taskOf 72 (ls) (st) h else ex cal k_R_taskOf 68 (ls) (st) h := e_ifeq cal rfl
theorem u_R_taskOf_68 : ex cal k_R_taskOf 68 (ls) (st) h = ex cal k_R_taskOf 69 (ls) (aI 1 :: st) h := e_push cal rfl
theorem u_R_taskOf_69 : ex cal k_R_taskOf 69 (ls) (st) h = ex cal k_R_taskOf 73 (ls) (st) h := ex_st cal (s := s_go 73) rfl rfl
theorem u_R_taskOf_72 : ex cal k_R_taskOf 72 (ls) (st) h = ex cal k_R_taskOf 73 (ls) (aI 0 :: st) h := e_push cal rfl
theorem u_R_taskOf_73 (hl : Nat.ble st.length 4 = true) : ex cal k_R_taskOf 73 (ls) (aI z3 :: aI z2 :: aI z1 :: aI z0 :: aQ (some a) :: st) h = gO h a 10 (kk cal k_R_taskOf 76 ls st (cal M_R_pointsFrom [aQ (some a), aI z0, aI z1, aI z2, aI z3] h)) := e_callV cal (ci := 10) (as := [aI z3, aI z2, aI z1, aI z0]) rfl (by decide) rfl (Nat.le_of_ble_eq_true hl)
theorem u_R_taskOf_76 : ex cal k_R_taskOf 76 (ls) (st) h = ex cal k_R_taskOf 77 (ls) (aI 3 :: st) h := e_push cal rfl
theorem u_R_taskOf_77 : ex cal k_R_taskOf 77 (ls) (aI j :: aI i :: st) h = ex cal k_R_taskOf 78 (ls) (aI (i + j) :: st) h := e_bin cal rfl
theorem u_R_taskOf_78 : ex cal k_R_taskOf 78 (ls) (st) h = ex cal k_R_taskOf 79 (ls) (aI 5 :: st) h := e_push cal rfl
theorem u_R_taskOf_79 : ex cal k_R_taskOf 79 (ls) (aI j :: aI i :: st) h = if wr i < wr j then ex cal k_R_taskOf 86 (ls) (st) h else ex cal k_R_taskOf 82 (ls) (st) h := e_iclt cal rfl
theorem u_R_taskOf_82 : ex cal k_R_taskOf 82 (ls) (st) h = ex cal k_R_taskOf 83 (ls) (aI 1 :: st) h := e_push cal rfl
theorem u_R_taskOf_83 : ex cal k_R_taskOf 83 (ls) (st) h = ex cal k_R_taskOf 87 (ls) (st) h := ex_st cal (s := s_go 87) rfl rfl
theorem u_R_taskOf_86 : ex cal k_R_taskOf 86 (ls) (st) h = ex cal k_R_taskOf 87 (ls) (aI 0 :: st) h := e_push cal rfl
theorem u_R_taskOf_87 : ex cal k_R_taskOf 87 (ls) (aI j :: aI i :: st) h = ex cal k_R_taskOf 88 (ls) (aI (i + j) :: st) h := e_bin cal rfl
theorem u_R_taskOf_88 (hx : aNl x2 = true) : ex cal k_R_taskOf 88 (x0 :: x1 :: x2 :: y :: ls) (aI v :: st) h = ex cal k_R_taskOf 89 (x0 :: x1 :: x2 :: aI v :: ls) (st) h := e_ist (ls := x0 :: x1 :: x2 :: y :: ls) (k := 3) rfl hx (by simp only [List.length_cons]; omega)
theorem u_R_taskOf_89 (hx : aNl x3 = true) : ex cal k_R_taskOf 89 (x0 :: x1 :: x2 :: x3 :: aI v :: ls) (st) h = ex cal k_R_taskOf 92 (x0 :: x1 :: x2 :: x3 :: aI (v + 1) :: ls) (st) h := e_inc (ls := x0 :: x1 :: x2 :: x3 :: aI v :: ls) (k := 4) rfl rfl hx
theorem u_R_taskOf_92 : ex cal k_R_taskOf 92 (ls) (st) h = ex cal k_R_taskOf 16 (ls) (st) h := ex_st cal (s := s_go 16) rfl rfl
theorem u_R_taskOf_95 : ex cal k_R_taskOf 95 (aQ r :: ls) (st) h = ex cal k_R_taskOf 96 (aQ r :: ls) (aQ r :: st) h := ex_st cal (s := s_ald 0 96) rfl rfl
theorem u_R_taskOf_96 : ex cal k_R_taskOf 96 (ls) (aQ (some a) :: st) h = gO h a 10 (ex cal k_R_taskOf 99 (ls) (gf h a 1 :: st) h) := e_gf cal rfl
theorem u_R_taskOf_99 : ex cal k_R_taskOf 99 (x0 :: x1 :: aI v :: ls) (st) h = ex cal k_R_taskOf 100 (x0 :: x1 :: aI v :: ls) (aI v :: st) h := ex_st cal (s := s_ild 2 100) rfl rfl
theorem u_R_taskOf_100 : ex cal k_R_taskOf 100 (ls) (aI i :: aQ (some a) :: st) h = gA h a i (ex cal k_R_taskOf 101 (ls) (aI (ai h a (wr i)) :: st) h) := e_ia cal rfl
theorem u_R_taskOf_101 : ex cal k_R_taskOf 101 (aQ r :: ls) (st) h = ex cal k_R_taskOf 102 (aQ r :: ls) (aQ r :: st) h := ex_st cal (s := s_ald 0 102) rfl rfl
theorem u_R_taskOf_102 : ex cal k_R_taskOf 102 (x0 :: aI v :: ls) (st) h = ex cal k_R_taskOf 103 (x0 :: aI v :: ls) (aI v :: st) h := ex_st cal (s := s_ild 1 103) rfl rfl
theorem u_R_taskOf_103 : ex cal k_R_taskOf 103 (x0 :: x1 :: aI v :: ls) (st) h = ex cal k_R_taskOf 104 (x0 :: x1 :: aI v :: ls) (aI v :: st) h := ex_st cal (s := s_ild 2 104) rfl rfl
theorem u_R_taskOf_104 (hl : Nat.ble st.length 4 = true) : ex cal k_R_taskOf 104 (ls) (aI z1 :: aI z0 :: aQ (some a) :: st) h = gO h a 10 (kk cal k_R_taskOf 107 ls st (cal M_R_known [aQ (some a), aI z0, aI z1] h)) := e_callV cal (ci := 10) (as := [aI z1, aI z0]) rfl (by decide) rfl (Nat.le_of_ble_eq_true hl)
theorem u_R_taskOf_107 : ex cal k_R_taskOf 107 (ls) (aI j :: aI i :: st) h = ex cal k_R_taskOf 108 (ls) (aI (i - j) :: st) h := e_bin cal rfl
theorem u_R_taskOf_108 (hx : aNl x3 = true) : ex cal k_R_taskOf 108 (x0 :: x1 :: x2 :: x3 :: y :: ls) (aI v :: st) h = ex cal k_R_taskOf 110 (x0 :: x1 :: x2 :: x3 :: aI v :: ls) (st) h := e_ist (ls := x0 :: x1 :: x2 :: x3 :: y :: ls) (k := 4) rfl hx (by simp only [List.length_cons]; omega)
theorem u_R_taskOf_110 : ex cal k_R_taskOf 110 (aQ r :: ls) (st) h = ex cal k_R_taskOf 111 (aQ r :: ls) (aQ r :: st) h := ex_st cal (s := s_ald 0 111) rfl rfl
theorem u_R_taskOf_111 : ex cal k_R_taskOf 111 (x0 :: x1 :: x2 :: aI v :: ls) (st) h = ex cal k_R_taskOf 112 (x0 :: x1 :: x2 :: aI v :: ls) (aI v :: st) h := ex_st cal (s := s_ild 3 112) rfl rfl
theorem u_R_taskOf_112 : ex cal k_R_taskOf 112 (x0 :: x1 :: aI v :: ls) (st) h = ex cal k_R_taskOf 113 (x0 :: x1 :: aI v :: ls) (aI v :: st) h := ex_st cal (s := s_ild 2 113) rfl rfl
theorem u_R_taskOf_113 (hl : Nat.ble st.length 4 = true) : ex cal k_R_taskOf 113 (ls) (aI z1 :: aI z0 :: aQ (some a) :: st) h = gO h a 10 (kk cal k_R_taskOf 116 ls st (cal M_R_does [aQ (some a), aI z0, aI z1] h)) := e_callV cal (ci := 10) (as := [aI z1, aI z0]) rfl (by decide) rfl (Nat.le_of_ble_eq_true hl)
theorem u_R_taskOf_116 : ex cal k_R_taskOf 116 (ls) (aI i :: st) h = if wr i = 0 then ex cal k_R_taskOf 135 (ls) (st) h else ex cal k_R_taskOf 119 (ls) (st) h := e_ifeq cal rfl
theorem u_R_taskOf_119 : ex cal k_R_taskOf 119 (x0 :: x1 :: x2 :: x3 :: aI v :: ls) (st) h = ex cal k_R_taskOf 121 (x0 :: x1 :: x2 :: x3 :: aI v :: ls) (aI v :: st) h := ex_st cal (s := s_ild 4 121) rfl rfl
theorem u_R_taskOf_121 : ex cal k_R_taskOf 121 (aQ r :: ls) (st) h = ex cal k_R_taskOf 122 (aQ r :: ls) (aQ r :: st) h := ex_st cal (s := s_ald 0 122) rfl rfl
theorem u_R_taskOf_122 : ex cal k_R_taskOf 122 (ls) (aQ (some a) :: st) h = gO h a 10 (ex cal k_R_taskOf 125 (ls) (gf h a 12 :: st) h) := e_gf cal rfl
theorem u_R_taskOf_125 : ex cal k_R_taskOf 125 (x0 :: aI v :: ls) (st) h = ex cal k_R_taskOf 126 (x0 :: aI v :: ls) (aI v :: st) h := ex_st cal (s := s_ild 1 126) rfl rfl
theorem u_R_taskOf_126 : ex cal k_R_taskOf 126 (ls) (aI i :: aQ (some a) :: st) h = gA h a i (ex cal k_R_taskOf 127 (ls) (aI (ai h a (wr i)) :: st) h) := e_ia cal rfl
theorem u_R_taskOf_127 : ex cal k_R_taskOf 127 (ls) (aI j :: aI i :: st) h = if wr j < wr i then ex cal k_R_taskOf 135 (ls) (st) h else ex cal k_R_taskOf 130 (ls) (st) h := e_icgt cal rfl
theorem u_R_taskOf_130 : ex cal k_R_taskOf 130 (x0 :: x1 :: x2 :: x3 :: aI v :: ls) (st) h = ex cal k_R_taskOf 132 (x0 :: x1 :: x2 :: x3 :: aI v :: ls) (aI v :: st) h := ex_st cal (s := s_ild 4 132) rfl rfl
theorem u_R_taskOf_132 : ex cal k_R_taskOf 132 (ls) (st) h = ex cal k_R_taskOf 136 (ls) (st) h := ex_st cal (s := s_go 136) rfl rfl
theorem u_R_taskOf_135 : ex cal k_R_taskOf 135 (ls) (st) h = ex cal k_R_taskOf 136 (ls) (aI 0 :: st) h := e_push cal rfl
theorem u_R_taskOf_136 : ex cal k_R_taskOf 136 (ls) ([aI v]) h = some (some (aI v), h) := e_ret1 cal rfl
theorem n_R_taskOf (d : Nat) : ev (d + 1) M_R_taskOf [aQ (some a), aI z0, aI z1] h = ex (ev d) k_R_taskOf 0 [aQ (some a), aI z0, aI z1, aU, aU, aU] [] h := rfl
theorem u_R_lacking_0 : ex cal k_R_lacking 0 (x0 :: aI v :: ls) (st) h = ex cal k_R_lacking 1 (x0 :: aI v :: ls) (aI v :: st) h := ex_st cal (s := s_ild 1 1) rfl rfl
theorem u_R_lacking_1 : ex cal k_R_lacking 1 (aQ r :: ls) (st) h = ex cal k_R_lacking 2 (aQ r :: ls) (aQ r :: st) h := ex_st cal (s := s_ald 0 2) rfl rfl
theorem u_R_lacking_2 : ex cal k_R_lacking 2 (ls) (aQ (some a) :: st) h = gO h a 10 (ex cal k_R_lacking 5 (ls) (gf h a 26 :: st) h) := e_gf cal rfl
theorem u_R_lacking_5 : ex cal k_R_lacking 5 (x0 :: x1 :: aI v :: ls) (st) h = ex cal k_R_lacking 6 (x0 :: x1 :: aI v :: ls) (aI v :: st) h := ex_st cal (s := s_ild 2 6) rfl rfl
theorem u_R_lacking_6 : ex cal k_R_lacking 6 (ls) (aI i :: aQ (some a) :: st) h = gA h a i (ex cal k_R_lacking 7 (ls) (aI (ai h a (wr i)) :: st) h) := e_ia cal rfl
theorem u_R_lacking_7 (h0 : j ≠ 0) (h1 : -2147483648 ≤ j) (h2 : j < 2147483648) : ex cal k_R_lacking 7 (ls) (aI j :: aI i :: st) h = ex cal k_R_lacking 8 (ls) (aI ((wr i).tdiv j) :: st) h := e_div2 rfl h0 h1 h2
theorem u_R_lacking_8 : ex cal k_R_lacking 8 (ls) (st) h = ex cal k_R_lacking 9 (ls) (aI 3 :: st) h := e_push cal rfl
theorem u_R_lacking_9 : ex cal k_R_lacking 9 (ls) (aI j :: aI i :: st) h = ex cal k_R_lacking 10 (ls) (aI (wand i j) :: st) h := e_bin cal rfl
theorem u_R_lacking_10 : ex cal k_R_lacking 10 (ls) (aI i :: st) h = if 0 < wr i then ex cal k_R_lacking 13 (ls) (st) h else ex cal k_R_lacking 24 (ls) (st) h := e_ifle cal rfl
theorem u_R_lacking_13 : ex cal k_R_lacking 13 (x0 :: aI v :: ls) (st) h = ex cal k_R_lacking 14 (x0 :: aI v :: ls) (aI v :: st) h := ex_st cal (s := s_ild 1 14) rfl rfl
theorem u_R_lacking_14 : ex cal k_R_lacking 14 (aQ r :: ls) (st) h = ex cal k_R_lacking 15 (aQ r :: ls) (aQ r :: st) h := ex_st cal (s := s_ald 0 15) rfl rfl
theorem u_R_lacking_15 : ex cal k_R_lacking 15 (ls) (aQ (some a) :: st) h = gO h a 10 (ex cal k_R_lacking 18 (ls) (gf h a 26 :: st) h) := e_gf cal rfl
theorem u_R_lacking_18 : ex cal k_R_lacking 18 (x0 :: x1 :: aI v :: ls) (st) h = ex cal k_R_lacking 19 (x0 :: x1 :: aI v :: ls) (aI v :: st) h := ex_st cal (s := s_ild 2 19) rfl rfl
theorem u_R_lacking_19 : ex cal k_R_lacking 19 (ls) (aI i :: aQ (some a) :: st) h = gA h a i (ex cal k_R_lacking 20 (ls) (aI (ai h a (wr i)) :: st) h) := e_ia cal rfl
theorem u_R_lacking_20 : ex cal k_R_lacking 20 (ls) (aI j :: aI i :: st) h = ex cal k_R_lacking 21 (ls) (aI (i - j) :: st) h := e_bin cal rfl
theorem u_R_lacking_21 : ex cal k_R_lacking 21 (ls) (st) h = ex cal k_R_lacking 25 (ls) (st) h := ex_st cal (s := s_go 25) rfl rfl
theorem u_R_lacking_24 : ex cal k_R_lacking 24 (x0 :: aI v :: ls) (st) h = ex cal k_R_lacking 25 (x0 :: aI v :: ls) (aI v :: st) h := ex_st cal (s := s_ild 1 25) rfl rfl
theorem u_R_lacking_25 : ex cal k_R_lacking 25 (ls) ([aI v]) h = some (some (aI v), h) := e_ret1 cal rfl
theorem n_R_lacking (d : Nat) : ev (d + 1) M_R_lacking [aQ (some a), aI z0, aI z1] h = ex (ev d) k_R_lacking 0 [aQ (some a), aI z0, aI z1] [] h := rfl
theorem u_R_begins_0 : ex cal k_R_begins 0 (aQ r :: ls) (st) h = ex cal k_R_begins 1 (aQ r :: ls) (aQ r :: st) h := ex_st cal (s := s_ald 0 1) rfl rfl
theorem u_R_begins_1 (hl : Nat.ble st.length 4 = true) : ex cal k_R_begins 1 (ls) (aQ (some a) :: st) h = gO h a 10 (kk cal k_R_begins 4 ls st (cal M_R_findAbles [aQ (some a)] h)) := e_callV cal (ci := 10) (as := []) rfl (by decide) rfl (Nat.le_of_ble_eq_true hl)
theorem u_R_begins_4 : ex cal k_R_begins 4 (aQ r :: ls) (st) h = ex cal k_R_begins 5 (aQ r :: ls) (aQ r :: st) h := ex_st cal (s := s_ald 0 5) rfl rfl
theorem u_R_begins_5 (hl : Nat.ble st.length 4 = true) : ex cal k_R_begins 5 (ls) (aQ (some a) :: st) h = gO h a 10 (kk cal k_R_begins 8 ls st (cal M_R_findTasks [aQ (some a)] h)) := e_callV cal (ci := 10) (as := []) rfl (by decide) rfl (Nat.le_of_ble_eq_true hl)
theorem u_R_begins_8 : ex cal k_R_begins 8 (ls) (st) h = ex cal k_R_begins 9 (ls) (aI 0 :: st) h := e_push cal rfl
theorem u_R_begins_9 (hx : aNl x1 = true) : ex cal k_R_begins 9 (x0 :: x1 :: y :: ls) (aI v :: st) h = ex cal k_R_begins 10 (x0 :: x1 :: aI v :: ls) (st) h := e_ist (ls := x0 :: x1 :: y :: ls) (k := 2) rfl hx (by simp only [List.length_cons]; omega)
theorem u_R_begins_10 : ex cal k_R_begins 10 (ls) (st) h = ex cal k_R_begins 11 (ls) (aI 0 :: st) h := e_push cal rfl
theorem u_R_begins_11 (hx : aNl x2 = true) : ex cal k_R_begins 11 (x0 :: x1 :: x2 :: y :: ls) (aI v :: st) h = ex cal k_R_begins 12 (x0 :: x1 :: x2 :: aI v :: ls) (st) h := e_ist (ls := x0 :: x1 :: x2 :: y :: ls) (k := 3) rfl hx (by simp only [List.length_cons]; omega)
theorem u_R_begins_12 : ex cal k_R_begins 12 (x0 :: x1 :: x2 :: aI v :: ls) (st) h = ex cal k_R_begins 13 (x0 :: x1 :: x2 :: aI v :: ls) (aI v :: st) h := ex_st cal (s := s_ild 3 13) rfl rfl
theorem u_R_begins_13 : ex cal k_R_begins 13 (ls) (st) h = ex cal k_R_begins 15 (ls) (aI 6 :: st) h := e_push cal rfl
theorem u_R_begins_15 : ex cal k_R_begins 15 (ls) (aI j :: aI i :: st) h = if wr i < wr j then ex cal k_R_begins 18 (ls) (st) h else ex cal k_R_begins 71 (ls) (st) h := e_icge cal rfl
theorem u_R_begins_18 : ex cal k_R_begins 18 (aQ r :: ls) (st) h = ex cal k_R_begins 19 (aQ r :: ls) (aQ r :: st) h := ex_st cal (s := s_ald 0 19) rfl rfl
theorem u_R_begins_19 : ex cal k_R_begins 19 (ls) (aQ (some a) :: st) h = gO h a 10 (ex cal k_R_begins 22 (ls) (gf h a 1 :: st) h) := e_gf cal rfl
theorem u_R_begins_22 : ex cal k_R_begins 22 (x0 :: x1 :: x2 :: aI v :: ls) (st) h = ex cal k_R_begins 23 (x0 :: x1 :: x2 :: aI v :: ls) (aI v :: st) h := ex_st cal (s := s_ild 3 23) rfl rfl
theorem u_R_begins_23 : ex cal k_R_begins 23 (ls) (aI i :: aQ (some a) :: st) h = gA h a i (ex cal k_R_begins 24 (ls) (aI (ai h a (wr i)) :: st) h) := e_ia cal rfl
theorem u_R_begins_24 : ex cal k_R_begins 24 (ls) (aI i :: st) h = if wr i = 0 then ex cal k_R_begins 27 (ls) (st) h else ex cal k_R_begins 31 (ls) (st) h := e_ifne cal rfl
theorem u_R_begins_27 : ex cal k_R_begins 27 (ls) (st) h = ex cal k_R_begins 28 (ls) (aI 0 :: st) h := e_push cal rfl
theorem u_R_begins_28 : ex cal k_R_begins 28 (ls) (st) h = ex cal k_R_begins 42 (ls) (st) h := ex_st cal (s := s_go 42) rfl rfl
theorem u_R_begins_31 : ex cal k_R_begins 31 (x0 :: aI v :: ls) (st) h = ex cal k_R_begins 32 (x0 :: aI v :: ls) (aI v :: st) h := ex_st cal (s := s_ild 1 32) rfl rfl
theorem u_R_begins_32 : ex cal k_R_begins 32 (aQ r :: ls) (st) h = ex cal k_R_begins 33 (aQ r :: ls) (aQ r :: st) h := ex_st cal (s := s_ald 0 33) rfl rfl
theorem u_R_begins_33 : ex cal k_R_begins 33 (ls) (aQ (some a) :: st) h = gO h a 10 (ex cal k_R_begins 36 (ls) (gf h a 22 :: st) h) := e_gf cal rfl
theorem u_R_begins_36 : ex cal k_R_begins 36 (x0 :: x1 :: x2 :: aI v :: ls) (st) h = ex cal k_R_begins 37 (x0 :: x1 :: x2 :: aI v :: ls) (aI v :: st) h := ex_st cal (s := s_ild 3 37) rfl rfl
theorem u_R_begins_37 : ex cal k_R_begins 37 (ls) (aI i :: aQ (some a) :: st) h = gA h a i (ex cal k_R_begins 38 (ls) (aI (ai h a (wr i)) :: st) h) := e_ia cal rfl
theorem u_R_begins_38 (hl : Nat.ble st.length 4 = true) : ex cal k_R_begins 38 (ls) (aI z0 :: st) h = kk cal k_R_begins 41 ls st (cal M_R_bits [aI z0] h) := e_call cal (as := [aI z0]) rfl rfl (Nat.le_of_ble_eq_true hl)
theorem u_R_begins_41 : ex cal k_R_begins 41 (ls) (aI j :: aI i :: st) h = ex cal k_R_begins 42 (ls) (aI (i - j) :: st) h := e_bin cal rfl
theorem u_R_begins_42 (hx : aNl x3 = true) : ex cal k_R_begins 42 (x0 :: x1 :: x2 :: x3 :: y :: ls) (aI v :: st) h = ex cal k_R_begins 44 (x0 :: x1 :: x2 :: x3 :: aI v :: ls) (st) h := e_ist (ls := x0 :: x1 :: x2 :: x3 :: y :: ls) (k := 4) rfl hx (by simp only [List.length_cons]; omega)
theorem u_R_begins_44 : ex cal k_R_begins 44 (x0 :: x1 :: aI v :: ls) (st) h = ex cal k_R_begins 45 (x0 :: x1 :: aI v :: ls) (aI v :: st) h := ex_st cal (s := s_ild 2 45) rfl rfl
theorem u_R_begins_45 : ex cal k_R_begins 45 (x0 :: x1 :: x2 :: x3 :: aI v :: ls) (st) h = ex cal k_R_begins 47 (x0 :: x1 :: x2 :: x3 :: aI v :: ls) (aI v :: st) h := ex_st cal (s := s_ild 4 47) rfl rfl
theorem u_R_begins_47 : ex cal k_R_begins 47 (ls) (aI i :: st) h = if 0 < wr i then ex cal k_R_begins 50 (ls) (st) h else ex cal k_R_begins 62 (ls) (st) h := e_ifle cal rfl
theorem u_R_begins_50 : ex cal k_R_begins 50 (x0 :: x1 :: x2 :: x3 :: aI v :: ls) (st) h = ex cal k_R_begins 52 (x0 :: x1 :: x2 :: x3 :: aI v :: ls) (aI v :: st) h := ex_st cal (s := s_ild 4 52) rfl rfl
theorem u_R_begins_52 : ex cal k_R_begins 52 (aQ r :: ls) (st) h = ex cal k_R_begins 53 (aQ r :: ls) (aQ r :: st) h := ex_st cal (s := s_ald 0 53) rfl rfl
theorem u_R_begins_53 : ex cal k_R_begins 53 (ls) (aQ (some a) :: st) h = gO h a 10 (ex cal k_R_begins 56 (ls) (gf h a 26 :: st) h) := e_gf cal rfl
theorem u_R_begins_56 : ex cal k_R_begins 56 (x0 :: x1 :: x2 :: aI v :: ls) (st) h = ex cal k_R_begins 57 (x0 :: x1 :: x2 :: aI v :: ls) (aI v :: st) h := ex_st cal (s := s_ild 3 57) rfl rfl
theorem u_R_begins_57 : ex cal k_R_begins 57 (ls) (aI i :: aQ (some a) :: st) h = gA h a i (ex cal k_R_begins 58 (ls) (aI (ai h a (wr i)) :: st) h) := e_ia cal rfl
theorem u_R_begins_58 : ex cal k_R_begins 58 (ls) (aI j :: aI i :: st) h = ex cal k_R_begins 59 (ls) (aI (i * j) :: st) h := e_bin cal rfl
theorem u_R_begins_59 : ex cal k_R_begins 59 (ls) (st) h = ex cal k_R_begins 63 (ls) (st) h := ex_st cal (s := s_go 63) rfl rfl
theorem u_R_begins_62 : ex cal k_R_begins 62 (ls) (st) h = ex cal k_R_begins 63 (ls) (aI 0 :: st) h := e_push cal rfl
theorem u_R_begins_63 : ex cal k_R_begins 63 (ls) (aI j :: aI i :: st) h = ex cal k_R_begins 64 (ls) (aI (i + j) :: st) h := e_bin cal rfl
theorem u_R_begins_64 (hx : aNl x1 = true) : ex cal k_R_begins 64 (x0 :: x1 :: y :: ls) (aI v :: st) h = ex cal k_R_begins 65 (x0 :: x1 :: aI v :: ls) (st) h := e_ist (ls := x0 :: x1 :: y :: ls) (k := 2) rfl hx (by simp only [List.length_cons]; omega)
theorem u_R_begins_65 (hx : aNl x2 = true) : ex cal k_R_begins 65 (x0 :: x1 :: x2 :: aI v :: ls) (st) h = ex cal k_R_begins 68 (x0 :: x1 :: x2 :: aI (v + 1) :: ls) (st) h := e_inc (ls := x0 :: x1 :: x2 :: aI v :: ls) (k := 3) rfl rfl hx
theorem u_R_begins_68 : ex cal k_R_begins 68 (ls) (st) h = ex cal k_R_begins 12 (ls) (st) h := ex_st cal (s := s_go 12) rfl rfl
theorem u_R_begins_71 : ex cal k_R_begins 71 (ls) (st) h = ex cal k_R_begins 72 (ls) (aI 0 :: st) h := e_push cal rfl
theorem u_R_begins_72 (hx : aNl x2 = true) : ex cal k_R_begins 72 (x0 :: x1 :: x2 :: y :: ls) (aI v :: st) h = ex cal k_R_begins 73 (x0 :: x1 :: x2 :: aI v :: ls) (st) h := e_ist (ls := x0 :: x1 :: x2 :: y :: ls) (k := 3) rfl hx (by simp only [List.length_cons]; omega)
theorem u_R_begins_73 : ex cal k_R_begins 73 (x0 :: x1 :: x2 :: aI v :: ls) (st) h = ex cal k_R_begins 74 (x0 :: x1 :: x2 :: aI v :: ls) (aI v :: st) h := ex_st cal (s := s_ild 3 74) rfl rfl
theorem u_R_begins_74 : ex cal k_R_begins 74 (ls) (st) h = ex cal k_R_begins 77 (ls) (aI 4096 :: st) h := e_push cal rfl
theorem u_R_begins_77 : ex cal k_R_begins 77 (ls) (aI j :: aI i :: st) h = if wr i < wr j then ex cal k_R_begins 80 (ls) (st) h else ex cal k_R_begins 105 (ls) (st) h := e_icge cal rfl
theorem u_R_begins_80 : ex cal k_R_begins 80 (aQ r :: ls) (st) h = ex cal k_R_begins 81 (aQ r :: ls) (aQ r :: st) h := ex_st cal (s := s_ald 0 81) rfl rfl
theorem u_R_begins_81 : ex cal k_R_begins 81 (ls) (aQ (some a) :: st) h = gO h a 10 (ex cal k_R_begins 84 (ls) (gf h a 24 :: st) h) := e_gf cal rfl
theorem u_R_begins_84 : ex cal k_R_begins 84 (ls) (st) h = ex cal k_R_begins 86 (ls) (aI 32768 :: st) h := e_push cal rfl
theorem u_R_begins_86 : ex cal k_R_begins 86 (x0 :: x1 :: x2 :: aI v :: ls) (st) h = ex cal k_R_begins 87 (x0 :: x1 :: x2 :: aI v :: ls) (aI v :: st) h := ex_st cal (s := s_ild 3 87) rfl rfl
theorem u_R_begins_87 : ex cal k_R_begins 87 (ls) (aI j :: aI i :: st) h = ex cal k_R_begins 88 (ls) (aI (i + j) :: st) h := e_bin cal rfl
theorem u_R_begins_88 : ex cal k_R_begins 88 (x0 :: x1 :: x2 :: aI v :: ls) (st) h = ex cal k_R_begins 89 (x0 :: x1 :: x2 :: aI v :: ls) (aI v :: st) h := ex_st cal (s := s_ild 3 89) rfl rfl
theorem u_R_begins_89 : ex cal k_R_begins 89 (ls) (aI i :: st) h = if wr i = 0 then ex cal k_R_begins 92 (ls) (st) h else ex cal k_R_begins 96 (ls) (st) h := e_ifne cal rfl
theorem u_R_begins_92 : ex cal k_R_begins 92 (ls) (st) h = ex cal k_R_begins 93 (ls) (aI 0 :: st) h := e_push cal rfl
theorem u_R_begins_93 : ex cal k_R_begins 93 (ls) (st) h = ex cal k_R_begins 98 (ls) (st) h := ex_st cal (s := s_go 98) rfl rfl
theorem u_R_begins_96 : ex cal k_R_begins 96 (ls) (st) h = ex cal k_R_begins 98 (ls) (aI 1000000 :: st) h := e_push cal rfl
theorem u_R_begins_98 (h3 : 3 ≤ a) : ex cal k_R_begins 98 (ls) (aI v :: aI i :: aQ (some a) :: st) h = gA h a i (ex cal k_R_begins 99 (ls) (st) (sa h a (upf (ai h a) (wr i) v))) := e_ias cal rfl h3
theorem u_R_begins_99 (hx : aNl x2 = true) : ex cal k_R_begins 99 (x0 :: x1 :: x2 :: aI v :: ls) (st) h = ex cal k_R_begins 102 (x0 :: x1 :: x2 :: aI (v + 1) :: ls) (st) h := e_inc (ls := x0 :: x1 :: x2 :: aI v :: ls) (k := 3) rfl rfl hx
theorem u_R_begins_102 : ex cal k_R_begins 102 (ls) (st) h = ex cal k_R_begins 73 (ls) (st) h := ex_st cal (s := s_go 73) rfl rfl
theorem u_R_begins_105 : ex cal k_R_begins 105 (ls) (st) h = ex cal k_R_begins 107 (ls) (aI 7 :: st) h := e_push cal rfl
theorem u_R_begins_107 (hx : aNl x2 = true) : ex cal k_R_begins 107 (x0 :: x1 :: x2 :: y :: ls) (aI v :: st) h = ex cal k_R_begins 108 (x0 :: x1 :: x2 :: aI v :: ls) (st) h := e_ist (ls := x0 :: x1 :: x2 :: y :: ls) (k := 3) rfl hx (by simp only [List.length_cons]; omega)
theorem u_R_begins_108 : ex cal k_R_begins 108 (x0 :: x1 :: x2 :: aI v :: ls) (st) h = ex cal k_R_begins 109 (x0 :: x1 :: x2 :: aI v :: ls) (aI v :: st) h := ex_st cal (s := s_ild 3 109) rfl rfl
theorem u_R_begins_109 : ex cal k_R_begins 109 (ls) (aI i :: st) h = if wr i < 0 then ex cal k_R_begins 244 (ls) (st) h else ex cal k_R_begins 112 (ls) (st) h := e_iflt cal rfl
theorem u_R_begins_112 : ex cal k_R_begins 112 (ls) (st) h = ex cal k_R_begins 113 (ls) (aI 0 :: st) h := e_push cal rfl
theorem u_R_begins_113 (hx : aNl x3 = true) : ex cal k_R_begins 113 (x0 :: x1 :: x2 :: x3 :: y :: ls) (aI v :: st) h = ex cal k_R_begins 115 (x0 :: x1 :: x2 :: x3 :: aI v :: ls) (st) h := e_ist (ls := x0 :: x1 :: x2 :: x3 :: y :: ls) (k := 4) rfl hx (by simp only [List.length_cons]; omega)
theorem u_R_begins_115 : ex cal k_R_begins 115 (x0 :: x1 :: x2 :: x3 :: aI v :: ls) (st) h = ex cal k_R_begins 117 (x0 :: x1 :: x2 :: x3 :: aI v :: ls) (aI v :: st) h := ex_st cal (s := s_ild 4 117) rfl rfl
theorem u_R_begins_117 : ex cal k_R_begins 117 (ls) (st) h = ex cal k_R_begins 120 (ls) (aI 4096 :: st) h := e_push cal rfl
theorem u_R_begins_120 : ex cal k_R_begins 120 (ls) (aI j :: aI i :: st) h = if wr i < wr j then ex cal k_R_begins 123 (ls) (st) h else ex cal k_R_begins 238 (ls) (st) h := e_icge cal rfl
theorem u_R_begins_123 : ex cal k_R_begins 123 (aQ r :: ls) (st) h = ex cal k_R_begins 124 (aQ r :: ls) (aQ r :: st) h := ex_st cal (s := s_ald 0 124) rfl rfl
theorem u_R_begins_124 : ex cal k_R_begins 124 (ls) (aQ (some a) :: st) h = gO h a 10 (ex cal k_R_begins 127 (ls) (gf h a 24 :: st) h) := e_gf cal rfl
theorem u_R_begins_127 : ex cal k_R_begins 127 (ls) (st) h = ex cal k_R_begins 130 (ls) (aI 4096 :: st) h := e_push cal rfl
theorem u_R_begins_130 : ex cal k_R_begins 130 (x0 :: x1 :: x2 :: aI v :: ls) (st) h = ex cal k_R_begins 131 (x0 :: x1 :: x2 :: aI v :: ls) (aI v :: st) h := ex_st cal (s := s_ild 3 131) rfl rfl
theorem u_R_begins_131 : ex cal k_R_begins 131 (ls) (st) h = ex cal k_R_begins 132 (ls) (aI 1 :: st) h := e_push cal rfl
theorem u_R_begins_132 : ex cal k_R_begins 132 (ls) (aI j :: aI i :: st) h = ex cal k_R_begins 133 (ls) (aI (i + j) :: st) h := e_bin cal rfl
theorem u_R_begins_133 : ex cal k_R_begins 133 (ls) (aI j :: aI i :: st) h = ex cal k_R_begins 134 (ls) (aI (i * j) :: st) h := e_bin cal rfl
theorem u_R_begins_134 : ex cal k_R_begins 134 (x0 :: x1 :: x2 :: x3 :: aI v :: ls) (st) h = ex cal k_R_begins 136 (x0 :: x1 :: x2 :: x3 :: aI v :: ls) (aI v :: st) h := ex_st cal (s := s_ild 4 136) rfl rfl
theorem u_R_begins_136 : ex cal k_R_begins 136 (ls) (aI j :: aI i :: st) h = ex cal k_R_begins 137 (ls) (aI (i + j) :: st) h := e_bin cal rfl
theorem u_R_begins_137 : ex cal k_R_begins 137 (ls) (aI i :: aQ (some a) :: st) h = gA h a i (ex cal k_R_begins 138 (ls) (aI (ai h a (wr i)) :: st) h) := e_ia cal rfl
theorem u_R_begins_138 (hx : aNl x4 = true) : ex cal k_R_begins 138 (x0 :: x1 :: x2 :: x3 :: x4 :: y :: ls) (aI v :: st) h = ex cal k_R_begins 140 (x0 :: x1 :: x2 :: x3 :: x4 :: aI v :: ls) (st) h := e_ist (ls := x0 :: x1 :: x2 :: x3 :: x4 :: y :: ls) (k := 5) rfl hx (by simp only [List.length_cons]; omega)
theorem u_R_begins_140 : ex cal k_R_begins 140 (ls) (st) h = ex cal k_R_begins 141 (ls) (aI 0 :: st) h := e_push cal rfl
theorem u_R_begins_141 (hx : aNl x5 = true) : ex cal k_R_begins 141 (x0 :: x1 :: x2 :: x3 :: x4 :: x5 :: y :: ls) (aI v :: st) h = ex cal k_R_begins 143 (x0 :: x1 :: x2 :: x3 :: x4 :: x5 :: aI v :: ls) (st) h := e_ist (ls := x0 :: x1 :: x2 :: x3 :: x4 :: x5 :: y :: ls) (k := 6) rfl hx (by simp only [List.length_cons]; omega)
theorem u_R_begins_143 : ex cal k_R_begins 143 (x0 :: x1 :: x2 :: x3 :: x4 :: x5 :: aI v :: ls) (st) h = ex cal k_R_begins 145 (x0 :: x1 :: x2 :: x3 :: x4 :: x5 :: aI v :: ls) (aI v :: st) h := ex_st cal (s := s_ild 6 145) rfl rfl
theorem u_R_begins_145 : ex cal k_R_begins 145 (ls) (st) h = ex cal k_R_begins 147 (ls) (aI 6 :: st) h := e_push cal rfl
theorem u_R_begins_147 : ex cal k_R_begins 147 (ls) (aI j :: aI i :: st) h = if wr i < wr j then ex cal k_R_begins 150 (ls) (st) h else ex cal k_R_begins 217 (ls) (st) h := e_icge cal rfl
theorem u_R_begins_150 : ex cal k_R_begins 150 (aQ r :: ls) (st) h = ex cal k_R_begins 151 (aQ r :: ls) (aQ r :: st) h := ex_st cal (s := s_ald 0 151) rfl rfl
theorem u_R_begins_151 : ex cal k_R_begins 151 (ls) (aQ (some a) :: st) h = gO h a 10 (ex cal k_R_begins 154 (ls) (gf h a 25 :: st) h) := e_gf cal rfl
theorem u_R_begins_154 : ex cal k_R_begins 154 (ls) (st) h = ex cal k_R_begins 156 (ls) (aI 6 :: st) h := e_push cal rfl
theorem u_R_begins_156 : ex cal k_R_begins 156 (x0 :: x1 :: x2 :: aI v :: ls) (st) h = ex cal k_R_begins 157 (x0 :: x1 :: x2 :: aI v :: ls) (aI v :: st) h := ex_st cal (s := s_ild 3 157) rfl rfl
theorem u_R_begins_157 : ex cal k_R_begins 157 (ls) (aI j :: aI i :: st) h = ex cal k_R_begins 158 (ls) (aI (i * j) :: st) h := e_bin cal rfl
theorem u_R_begins_158 : ex cal k_R_begins 158 (x0 :: x1 :: x2 :: x3 :: x4 :: x5 :: aI v :: ls) (st) h = ex cal k_R_begins 160 (x0 :: x1 :: x2 :: x3 :: x4 :: x5 :: aI v :: ls) (aI v :: st) h := ex_st cal (s := s_ild 6 160) rfl rfl
theorem u_R_begins_160 : ex cal k_R_begins 160 (ls) (aI j :: aI i :: st) h = ex cal k_R_begins 161 (ls) (aI (i + j) :: st) h := e_bin cal rfl
theorem u_R_begins_161 : ex cal k_R_begins 161 (ls) (aI i :: aQ (some a) :: st) h = gA h a i (ex cal k_R_begins 162 (ls) (aI (ai h a (wr i)) :: st) h) := e_ia cal rfl
theorem u_R_begins_162 (hx : aNl x6 = true) : ex cal k_R_begins 162 (x0 :: x1 :: x2 :: x3 :: x4 :: x5 :: x6 :: y :: ls) (aI v :: st) h = ex cal k_R_begins 164 (x0 :: x1 :: x2 :: x3 :: x4 :: x5 :: x6 :: aI v :: ls) (st) h := e_ist (ls := x0 :: x1 :: x2 :: x3 :: x4 :: x5 :: x6 :: y :: ls) (k := 7) rfl hx (by simp only [List.length_cons]; omega)
theorem u_R_begins_164 : ex cal k_R_begins 164 (x0 :: x1 :: x2 :: x3 :: x4 :: x5 :: x6 :: aI v :: ls) (st) h = ex cal k_R_begins 166 (x0 :: x1 :: x2 :: x3 :: x4 :: x5 :: x6 :: aI v :: ls) (aI v :: st) h := ex_st cal (s := s_ild 7 166) rfl rfl
theorem u_R_begins_166 : ex cal k_R_begins 166 (ls) (aI i :: st) h = if wr i = 0 then ex cal k_R_begins 169 (ls) (st) h else ex cal k_R_begins 174 (ls) (st) h := e_ifne cal rfl
theorem u_R_begins_169 : ex cal k_R_begins 169 (ls) (st) h = ex cal k_R_begins 171 (ls) (aI 1000000 :: st) h := e_push cal rfl
theorem u_R_begins_171 : ex cal k_R_begins 171 (ls) (st) h = ex cal k_R_begins 198 (ls) (st) h := ex_st cal (s := s_go 198) rfl rfl
theorem u_R_begins_174 : ex cal k_R_begins 174 (x0 :: x1 :: x2 :: x3 :: x4 :: x5 :: x6 :: aI v :: ls) (st) h = ex cal k_R_begins 176 (x0 :: x1 :: x2 :: x3 :: x4 :: x5 :: x6 :: aI v :: ls) (aI v :: st) h := ex_st cal (s := s_ild 7 176) rfl rfl
theorem u_R_begins_176 : ex cal k_R_begins 176 (aQ r :: ls) (st) h = ex cal k_R_begins 177 (aQ r :: ls) (aQ r :: st) h := ex_st cal (s := s_ald 0 177) rfl rfl
theorem u_R_begins_177 : ex cal k_R_begins 177 (ls) (aQ (some a) :: st) h = gO h a 10 (ex cal k_R_begins 180 (ls) (gf h a 24 :: st) h) := e_gf cal rfl
theorem u_R_begins_180 : ex cal k_R_begins 180 (ls) (st) h = ex cal k_R_begins 183 (ls) (aI 4096 :: st) h := e_push cal rfl
theorem u_R_begins_183 : ex cal k_R_begins 183 (x0 :: x1 :: x2 :: aI v :: ls) (st) h = ex cal k_R_begins 184 (x0 :: x1 :: x2 :: aI v :: ls) (aI v :: st) h := ex_st cal (s := s_ild 3 184) rfl rfl
theorem u_R_begins_184 : ex cal k_R_begins 184 (ls) (st) h = ex cal k_R_begins 185 (ls) (aI 1 :: st) h := e_push cal rfl
theorem u_R_begins_185 : ex cal k_R_begins 185 (ls) (aI j :: aI i :: st) h = ex cal k_R_begins 186 (ls) (aI (i + j) :: st) h := e_bin cal rfl
theorem u_R_begins_186 : ex cal k_R_begins 186 (ls) (aI j :: aI i :: st) h = ex cal k_R_begins 187 (ls) (aI (i * j) :: st) h := e_bin cal rfl
theorem u_R_begins_187 : ex cal k_R_begins 187 (aQ r :: ls) (st) h = ex cal k_R_begins 188 (aQ r :: ls) (aQ r :: st) h := ex_st cal (s := s_ald 0 188) rfl rfl
theorem u_R_begins_188 : ex cal k_R_begins 188 (x0 :: x1 :: x2 :: x3 :: aI v :: ls) (st) h = ex cal k_R_begins 190 (x0 :: x1 :: x2 :: x3 :: aI v :: ls) (aI v :: st) h := ex_st cal (s := s_ild 4 190) rfl rfl
theorem u_R_begins_190 : ex cal k_R_begins 190 (x0 :: x1 :: x2 :: x3 :: x4 :: x5 :: aI v :: ls) (st) h = ex cal k_R_begins 192 (x0 :: x1 :: x2 :: x3 :: x4 :: x5 :: aI v :: ls) (aI v :: st) h := ex_st cal (s := s_ild 6 192) rfl rfl
theorem u_R_begins_192 (hl : Nat.ble st.length 4 = true) : ex cal k_R_begins 192 (ls) (aI z1 :: aI z0 :: aQ (some a) :: st) h = gO h a 10 (kk cal k_R_begins 195 ls st (cal M_R_lacking [aQ (some a), aI z0, aI z1] h)) := e_callV cal (ci := 10) (as := [aI z1, aI z0]) rfl (by decide) rfl (Nat.le_of_ble_eq_true hl)
theorem u_R_begins_195 : ex cal k_R_begins 195 (ls) (aI j :: aI i :: st) h = ex cal k_R_begins 196 (ls) (aI (i + j) :: st) h := e_bin cal rfl
theorem u_R_begins_196 : ex cal k_R_begins 196 (ls) (aI i :: aQ (some a) :: st) h = gA h a i (ex cal k_R_begins 197 (ls) (aI (ai h a (wr i)) :: st) h) := e_ia cal rfl
theorem u_R_begins_197 : ex cal k_R_begins 197 (ls) (aI j :: aI i :: st) h = ex cal k_R_begins 198 (ls) (aI (i + j) :: st) h := e_bin cal rfl
theorem u_R_begins_198 (hx : aNl x7 = true) : ex cal k_R_begins 198 (x0 :: x1 :: x2 :: x3 :: x4 :: x5 :: x6 :: x7 :: y :: ls) (aI v :: st) h = ex cal k_R_begins 200 (x0 :: x1 :: x2 :: x3 :: x4 :: x5 :: x6 :: x7 :: aI v :: ls) (st) h := e_ist (ls := x0 :: x1 :: x2 :: x3 :: x4 :: x5 :: x6 :: x7 :: y :: ls) (k := 8) rfl hx (by simp only [List.length_cons]; omega)
theorem u_R_begins_200 : ex cal k_R_begins 200 (x0 :: x1 :: x2 :: x3 :: x4 :: x5 :: x6 :: x7 :: aI v :: ls) (st) h = ex cal k_R_begins 202 (x0 :: x1 :: x2 :: x3 :: x4 :: x5 :: x6 :: x7 :: aI v :: ls) (aI v :: st) h := ex_st cal (s := s_ild 8 202) rfl rfl
theorem u_R_begins_202 : ex cal k_R_begins 202 (x0 :: x1 :: x2 :: x3 :: x4 :: aI v :: ls) (st) h = ex cal k_R_begins 204 (x0 :: x1 :: x2 :: x3 :: x4 :: aI v :: ls) (aI v :: st) h := ex_st cal (s := s_ild 5 204) rfl rfl
theorem u_R_begins_204 : ex cal k_R_begins 204 (ls) (aI j :: aI i :: st) h = if wr i < wr j then ex cal k_R_begins 207 (ls) (st) h else ex cal k_R_begins 211 (ls) (st) h := e_icge cal rfl
theorem u_R_begins_207 : ex cal k_R_begins 207 (x0 :: x1 :: x2 :: x3 :: x4 :: x5 :: x6 :: x7 :: aI v :: ls) (st) h = ex cal k_R_begins 209 (x0 :: x1 :: x2 :: x3 :: x4 :: x5 :: x6 :: x7 :: aI v :: ls) (aI v :: st) h := ex_st cal (s := s_ild 8 209) rfl rfl
theorem u_R_begins_209 (hx : aNl x4 = true) : ex cal k_R_begins 209 (x0 :: x1 :: x2 :: x3 :: x4 :: y :: ls) (aI v :: st) h = ex cal k_R_begins 211 (x0 :: x1 :: x2 :: x3 :: x4 :: aI v :: ls) (st) h := e_ist (ls := x0 :: x1 :: x2 :: x3 :: x4 :: y :: ls) (k := 5) rfl hx (by simp only [List.length_cons]; omega)
theorem u_R_begins_211 (hx : aNl x5 = true) : ex cal k_R_begins 211 (x0 :: x1 :: x2 :: x3 :: x4 :: x5 :: aI v :: ls) (st) h = ex cal k_R_begins 214 (x0 :: x1 :: x2 :: x3 :: x4 :: x5 :: aI (v + 1) :: ls) (st) h := e_inc (ls := x0 :: x1 :: x2 :: x3 :: x4 :: x5 :: aI v :: ls) (k := 6) rfl rfl hx
theorem u_R_begins_214 : ex cal k_R_begins 214 (ls) (st) h = ex cal k_R_begins 143 (ls) (st) h := ex_st cal (s := s_go 143) rfl rfl
theorem u_R_begins_217 : ex cal k_R_begins 217 (aQ r :: ls) (st) h = ex cal k_R_begins 218 (aQ r :: ls) (aQ r :: st) h := ex_st cal (s := s_ald 0 218) rfl rfl
theorem u_R_begins_218 : ex cal k_R_begins 218 (ls) (aQ (some a) :: st) h = gO h a 10 (ex cal k_R_begins 221 (ls) (gf h a 24 :: st) h) := e_gf cal rfl
theorem u_R_begins_221 : ex cal k_R_begins 221 (ls) (st) h = ex cal k_R_begins 224 (ls) (aI 4096 :: st) h := e_push cal rfl
theorem u_R_begins_224 : ex cal k_R_begins 224 (x0 :: x1 :: x2 :: aI v :: ls) (st) h = ex cal k_R_begins 225 (x0 :: x1 :: x2 :: aI v :: ls) (aI v :: st) h := ex_st cal (s := s_ild 3 225) rfl rfl
theorem u_R_begins_225 : ex cal k_R_begins 225 (ls) (aI j :: aI i :: st) h = ex cal k_R_begins 226 (ls) (aI (i * j) :: st) h := e_bin cal rfl
theorem u_R_begins_226 : ex cal k_R_begins 226 (x0 :: x1 :: x2 :: x3 :: aI v :: ls) (st) h = ex cal k_R_begins 228 (x0 :: x1 :: x2 :: x3 :: aI v :: ls) (aI v :: st) h := ex_st cal (s := s_ild 4 228) rfl rfl
theorem u_R_begins_228 : ex cal k_R_begins 228 (ls) (aI j :: aI i :: st) h = ex cal k_R_begins 229 (ls) (aI (i + j) :: st) h := e_bin cal rfl
theorem u_R_begins_229 : ex cal k_R_begins 229 (x0 :: x1 :: x2 :: x3 :: x4 :: aI v :: ls) (st) h = ex cal k_R_begins 231 (x0 :: x1 :: x2 :: x3 :: x4 :: aI v :: ls) (aI v :: st) h := ex_st cal (s := s_ild 5 231) rfl rfl
theorem u_R_begins_231 (h3 : 3 ≤ a) : ex cal k_R_begins 231 (ls) (aI v :: aI i :: aQ (some a) :: st) h = gA h a i (ex cal k_R_begins 232 (ls) (st) (sa h a (upf (ai h a) (wr i) v))) := e_ias cal rfl h3
theorem u_R_begins_232 (hx : aNl x3 = true) : ex cal k_R_begins 232 (x0 :: x1 :: x2 :: x3 :: aI v :: ls) (st) h = ex cal k_R_begins 235 (x0 :: x1 :: x2 :: x3 :: aI (v + 1) :: ls) (st) h := e_inc (ls := x0 :: x1 :: x2 :: x3 :: aI v :: ls) (k := 4) rfl rfl hx
theorem u_R_begins_235 : ex cal k_R_begins 235 (ls) (st) h = ex cal k_R_begins 115 (ls) (st) h := ex_st cal (s := s_go 115) rfl rfl
theorem u_R_begins_238 (hx : aNl x2 = true) : ex cal k_R_begins 238 (x0 :: x1 :: x2 :: aI v :: ls) (st) h = ex cal k_R_begins 241 (x0 :: x1 :: x2 :: aI (v + (-1)) :: ls) (st) h := e_inc (ls := x0 :: x1 :: x2 :: aI v :: ls) (k := 3) rfl rfl hx
theorem u_R_begins_241 : ex cal k_R_begins 241 (ls) (st) h = ex cal k_R_begins 108 (ls) (st) h := ex_st cal (s := s_go 108) rfl rfl
theorem u_R_begins_244 : ex cal k_R_begins 244 (x0 :: x1 :: aI v :: ls) (st) h = ex cal k_R_begins 245 (x0 :: x1 :: aI v :: ls) (aI v :: st) h := ex_st cal (s := s_ild 2 245) rfl rfl
theorem u_R_begins_245 : ex cal k_R_begins 245 (ls) ([aI v]) h = some (some (aI v), h) := e_ret1 cal rfl
theorem n_R_begins (d : Nat) : ev (d + 1) M_R_begins [aQ (some a), aI z0] h = ex (ev d) k_R_begins 0 [aQ (some a), aI z0, aU, aU, aU, aU, aU, aU, aU] [] h := rfl
theorem u_R_plan_0 : ex cal k_R_plan 0 (x0 :: aI v :: ls) (st) h = ex cal k_R_plan 1 (x0 :: aI v :: ls) (aI v :: st) h := ex_st cal (s := s_ild 1 1) rfl rfl
theorem u_R_plan_1 : ex cal k_R_plan 1 (ls) (aI i :: st) h = ex cal k_R_plan 2 (ls) (aL (wr i) :: st) h := ex_st cal (s := s_i2l 2) rfl rfl
theorem u_R_plan_2 : ex cal k_R_plan 2 (ls) (st) h = ex cal k_R_plan 3 (ls) (aL 1 :: st) h := e_push cal rfl
theorem u_R_plan_3 : ex cal k_R_plan 3 (ls) (st) h = ex cal k_R_plan 6 (ls) (aL 3 :: st) h := e_push cal rfl
theorem u_R_plan_6 (hl : Nat.ble st.length 4 = true) : ex cal k_R_plan 6 (ls) (aL z2 :: aL z1 :: aL z0 :: st) h = kk cal k_R_plan 9 ls st (cal M_R_isIn [aL z0, aL z1, aL z2] h) := e_call cal (as := [aL z2, aL z1, aL z0]) rfl rfl (Nat.le_of_ble_eq_true hl)
theorem u_R_plan_9 : ex cal k_R_plan 9 (ls) (aI i :: st) h = if wr i = 0 then ex cal k_R_plan 25 (ls) (st) h else ex cal k_R_plan 12 (ls) (st) h := e_ifeq cal rfl
theorem u_R_plan_12 : ex cal k_R_plan 12 (x0 :: x1 :: aI v :: ls) (st) h = ex cal k_R_plan 13 (x0 :: x1 :: aI v :: ls) (aI v :: st) h := ex_st cal (s := s_ild 2 13) rfl rfl
theorem u_R_plan_13 : ex cal k_R_plan 13 (ls) (st) h = ex cal k_R_plan 14 (ls) (aI (-1) :: st) h := e_push cal rfl
theorem u_R_plan_14 : ex cal k_R_plan 14 (ls) (aI j :: aI i :: st) h = if wr i = wr j then ex cal k_R_plan 28 (ls) (st) h else ex cal k_R_plan 17 (ls) (st) h := e_iceq cal rfl
theorem u_R_plan_17 : ex cal k_R_plan 17 (aQ r :: ls) (st) h = ex cal k_R_plan 18 (aQ r :: ls) (aQ r :: st) h := ex_st cal (s := s_ald 0 18) rfl rfl
theorem u_R_plan_18 : ex cal k_R_plan 18 (x0 :: x1 :: aI v :: ls) (st) h = ex cal k_R_plan 19 (x0 :: x1 :: aI v :: ls) (aI v :: st) h := ex_st cal (s := s_ild 2 19) rfl rfl
theorem u_R_plan_19 (hl : Nat.ble st.length 4 = true) : ex cal k_R_plan 19 (ls) (aI z0 :: aQ (some a) :: st) h = gO h a 10 (kk cal k_R_plan 22 ls st (cal M_R_isPerson [aQ (some a), aI z0] h)) := e_callV cal (ci := 10) (as := [aI z0]) rfl (by decide) rfl (Nat.le_of_ble_eq_true hl)
theorem u_R_plan_22 : ex cal k_R_plan 22 (ls) (aI i :: st) h = if wr i = 0 then ex cal k_R_plan 25 (ls) (st) h else ex cal k_R_plan 28 (ls) (st) h := e_ifne cal rfl
theorem u_R_plan_25 : ex cal k_R_plan 25 (ls) (st) h = ex cal k_R_plan 27 (ls) (aI (-2) :: st) h := e_push cal rfl
theorem u_R_plan_27 : ex cal k_R_plan 27 (ls) ([aI v]) h = some (some (aI v), h) := e_ret1 cal rfl
theorem u_R_plan_28 : ex cal k_R_plan 28 (aQ r :: ls) (st) h = ex cal k_R_plan 29 (aQ r :: ls) (aQ r :: st) h := ex_st cal (s := s_ald 0 29) rfl rfl
theorem u_R_plan_29 : ex cal k_R_plan 29 (x0 :: aI v :: ls) (st) h = ex cal k_R_plan 30 (x0 :: aI v :: ls) (aI v :: st) h := ex_st cal (s := s_ild 1 30) rfl rfl
theorem u_R_plan_30 (hl : Nat.ble st.length 4 = true) : ex cal k_R_plan 30 (ls) (aI z0 :: aQ (some a) :: st) h = gO h a 10 (kk cal k_R_plan 33 ls st (cal M_R_begins [aQ (some a), aI z0] h)) := e_callV cal (ci := 10) (as := [aI z0]) rfl (by decide) rfl (Nat.le_of_ble_eq_true hl)
theorem u_R_plan_33 (hx : aNl x2 = true) : ex cal k_R_plan 33 (x0 :: x1 :: x2 :: y :: ls) (aI v :: st) h = ex cal k_R_plan 34 (x0 :: x1 :: x2 :: aI v :: ls) (st) h := e_ist (ls := x0 :: x1 :: x2 :: y :: ls) (k := 3) rfl hx (by simp only [List.length_cons]; omega)
theorem u_R_plan_34 : ex cal k_R_plan 34 (aQ r :: ls) (st) h = ex cal k_R_plan 35 (aQ r :: ls) (aQ r :: st) h := ex_st cal (s := s_ald 0 35) rfl rfl
theorem u_R_plan_35 : ex cal k_R_plan 35 (ls) (aQ (some a) :: st) h = gO h a 10 (ex cal k_R_plan 38 (ls) (gf h a 24 :: st) h) := e_gf cal rfl
theorem u_R_plan_38 : ex cal k_R_plan 38 (x0 :: x1 :: x2 :: aI v :: ls) (st) h = ex cal k_R_plan 39 (x0 :: x1 :: x2 :: aI v :: ls) (aI v :: st) h := ex_st cal (s := s_ild 3 39) rfl rfl
theorem u_R_plan_39 : ex cal k_R_plan 39 (ls) (aI i :: aQ (some a) :: st) h = gA h a i (ex cal k_R_plan 40 (ls) (aI (ai h a (wr i)) :: st) h) := e_ia cal rfl
theorem u_R_plan_40 (hx : aNl x3 = true) : ex cal k_R_plan 40 (x0 :: x1 :: x2 :: x3 :: y :: ls) (aI v :: st) h = ex cal k_R_plan 42 (x0 :: x1 :: x2 :: x3 :: aI v :: ls) (st) h := e_ist (ls := x0 :: x1 :: x2 :: x3 :: y :: ls) (k := 4) rfl hx (by simp only [List.length_cons]; omega)
theorem u_R_plan_42 : ex cal k_R_plan 42 (x0 :: x1 :: x2 :: x3 :: aI v :: ls) (st) h = ex cal k_R_plan 44 (x0 :: x1 :: x2 :: x3 :: aI v :: ls) (aI v :: st) h := ex_st cal (s := s_ild 4 44) rfl rfl
theorem u_R_plan_44 : ex cal k_R_plan 44 (ls) (st) h = ex cal k_R_plan 46 (ls) (aI 1000000 :: st) h := e_push cal rfl
theorem u_R_plan_46 : ex cal k_R_plan 46 (ls) (aI j :: aI i :: st) h = if wr i < wr j then ex cal k_R_plan 52 (ls) (st) h else ex cal k_R_plan 49 (ls) (st) h := e_iclt cal rfl
theorem u_R_plan_49 : ex cal k_R_plan 49 (ls) (st) h = ex cal k_R_plan 51 (ls) (aI (-2) :: st) h := e_push cal rfl
theorem u_R_plan_51 : ex cal k_R_plan 51 (ls) ([aI v]) h = some (some (aI v), h) := e_ret1 cal rfl
theorem u_R_plan_52 : ex cal k_R_plan 52 (x0 :: x1 :: aI v :: ls) (st) h = ex cal k_R_plan 53 (x0 :: x1 :: aI v :: ls) (aI v :: st) h := ex_st cal (s := s_ild 2 53) rfl rfl
theorem u_R_plan_53 : ex cal k_R_plan 53 (ls) (st) h = ex cal k_R_plan 54 (ls) (aI (-1) :: st) h := e_push cal rfl
theorem u_R_plan_54 : ex cal k_R_plan 54 (ls) (aI j :: aI i :: st) h = if wr i = wr j then ex cal k_R_plan 57 (ls) (st) h else ex cal k_R_plan 60 (ls) (st) h := e_icne cal rfl
theorem u_R_plan_57 : ex cal k_R_plan 57 (x0 :: x1 :: x2 :: x3 :: aI v :: ls) (st) h = ex cal k_R_plan 59 (x0 :: x1 :: x2 :: x3 :: aI v :: ls) (aI v :: st) h := ex_st cal (s := s_ild 4 59) rfl rfl
theorem u_R_plan_59 : ex cal k_R_plan 59 (ls) ([aI v]) h = some (some (aI v), h) := e_ret1 cal rfl
theorem u_R_plan_60 : ex cal k_R_plan 60 (ls) (st) h = ex cal k_R_plan 61 (ls) (aI (-1) :: st) h := e_push cal rfl
theorem u_R_plan_61 (hx : aNl x4 = true) : ex cal k_R_plan 61 (x0 :: x1 :: x2 :: x3 :: x4 :: y :: ls) (aI v :: st) h = ex cal k_R_plan 63 (x0 :: x1 :: x2 :: x3 :: x4 :: aI v :: ls) (st) h := e_ist (ls := x0 :: x1 :: x2 :: x3 :: x4 :: y :: ls) (k := 5) rfl hx (by simp only [List.length_cons]; omega)
theorem u_R_plan_63 : ex cal k_R_plan 63 (ls) (st) h = ex cal k_R_plan 64 (ls) (aI 0 :: st) h := e_push cal rfl
theorem u_R_plan_64 (hx : aNl x5 = true) : ex cal k_R_plan 64 (x0 :: x1 :: x2 :: x3 :: x4 :: x5 :: y :: ls) (aI v :: st) h = ex cal k_R_plan 66 (x0 :: x1 :: x2 :: x3 :: x4 :: x5 :: aI v :: ls) (st) h := e_ist (ls := x0 :: x1 :: x2 :: x3 :: x4 :: x5 :: y :: ls) (k := 6) rfl hx (by simp only [List.length_cons]; omega)
theorem u_R_plan_66 : ex cal k_R_plan 66 (x0 :: x1 :: x2 :: x3 :: x4 :: x5 :: aI v :: ls) (st) h = ex cal k_R_plan 68 (x0 :: x1 :: x2 :: x3 :: x4 :: x5 :: aI v :: ls) (aI v :: st) h := ex_st cal (s := s_ild 6 68) rfl rfl
theorem u_R_plan_68 : ex cal k_R_plan 68 (x0 :: x1 :: aI v :: ls) (st) h = ex cal k_R_plan 69 (x0 :: x1 :: aI v :: ls) (aI v :: st) h := ex_st cal (s := s_ild 2 69) rfl rfl
theorem u_R_plan_69 : ex cal k_R_plan 69 (ls) (aI j :: aI i :: st) h = if wr j < wr i then ex cal k_R_plan 179 (ls) (st) h else ex cal k_R_plan 72 (ls) (st) h := e_icgt cal rfl
theorem u_R_plan_72 : ex cal k_R_plan 72 (ls) (st) h = ex cal k_R_plan 73 (ls) (aI (-1) :: st) h := e_push cal rfl
theorem u_R_plan_73 (hx : aNl x4 = true) : ex cal k_R_plan 73 (x0 :: x1 :: x2 :: x3 :: x4 :: y :: ls) (aI v :: st) h = ex cal k_R_plan 75 (x0 :: x1 :: x2 :: x3 :: x4 :: aI v :: ls) (st) h := e_ist (ls := x0 :: x1 :: x2 :: x3 :: x4 :: y :: ls) (k := 5) rfl hx (by simp only [List.length_cons]; omega)
theorem u_R_plan_75 : ex cal k_R_plan 75 (ls) (st) h = ex cal k_R_plan 76 (ls) (aI 0 :: st) h := e_push cal rfl
theorem u_R_plan_76 (hx : aNl x6 = true) : ex cal k_R_plan 76 (x0 :: x1 :: x2 :: x3 :: x4 :: x5 :: x6 :: y :: ls) (aI v :: st) h = ex cal k_R_plan 78 (x0 :: x1 :: x2 :: x3 :: x4 :: x5 :: x6 :: aI v :: ls) (st) h := e_ist (ls := x0 :: x1 :: x2 :: x3 :: x4 :: x5 :: x6 :: y :: ls) (k := 7) rfl hx (by simp only [List.length_cons]; omega)
theorem u_R_plan_78 : ex cal k_R_plan 78 (x0 :: x1 :: x2 :: x3 :: x4 :: x5 :: x6 :: aI v :: ls) (st) h = ex cal k_R_plan 80 (x0 :: x1 :: x2 :: x3 :: x4 :: x5 :: x6 :: aI v :: ls) (aI v :: st) h := ex_st cal (s := s_ild 7 80) rfl rfl
theorem u_R_plan_80 : ex cal k_R_plan 80 (ls) (st) h = ex cal k_R_plan 82 (ls) (aI 6 :: st) h := e_push cal rfl
theorem u_R_plan_82 : ex cal k_R_plan 82 (ls) (aI j :: aI i :: st) h = if wr i < wr j then ex cal k_R_plan 85 (ls) (st) h else ex cal k_R_plan 160 (ls) (st) h := e_icge cal rfl
theorem u_R_plan_85 : ex cal k_R_plan 85 (x0 :: x1 :: x2 :: x3 :: x4 :: aI v :: ls) (st) h = ex cal k_R_plan 87 (x0 :: x1 :: x2 :: x3 :: x4 :: aI v :: ls) (aI v :: st) h := ex_st cal (s := s_ild 5 87) rfl rfl
theorem u_R_plan_87 : ex cal k_R_plan 87 (ls) (aI i :: st) h = if wr i < 0 then ex cal k_R_plan 90 (ls) (st) h else ex cal k_R_plan 160 (ls) (st) h := e_ifge cal rfl
theorem u_R_plan_90 : ex cal k_R_plan 90 (aQ r :: ls) (st) h = ex cal k_R_plan 91 (aQ r :: ls) (aQ r :: st) h := ex_st cal (s := s_ald 0 91) rfl rfl
theorem u_R_plan_91 : ex cal k_R_plan 91 (ls) (aQ (some a) :: st) h = gO h a 10 (ex cal k_R_plan 94 (ls) (gf h a 25 :: st) h) := e_gf cal rfl
theorem u_R_plan_94 : ex cal k_R_plan 94 (ls) (st) h = ex cal k_R_plan 96 (ls) (aI 6 :: st) h := e_push cal rfl
theorem u_R_plan_96 : ex cal k_R_plan 96 (x0 :: x1 :: x2 :: x3 :: x4 :: x5 :: aI v :: ls) (st) h = ex cal k_R_plan 98 (x0 :: x1 :: x2 :: x3 :: x4 :: x5 :: aI v :: ls) (aI v :: st) h := ex_st cal (s := s_ild 6 98) rfl rfl
theorem u_R_plan_98 : ex cal k_R_plan 98 (ls) (aI j :: aI i :: st) h = ex cal k_R_plan 99 (ls) (aI (i * j) :: st) h := e_bin cal rfl
theorem u_R_plan_99 : ex cal k_R_plan 99 (x0 :: x1 :: x2 :: x3 :: x4 :: x5 :: x6 :: aI v :: ls) (st) h = ex cal k_R_plan 101 (x0 :: x1 :: x2 :: x3 :: x4 :: x5 :: x6 :: aI v :: ls) (aI v :: st) h := ex_st cal (s := s_ild 7 101) rfl rfl
theorem u_R_plan_101 : ex cal k_R_plan 101 (ls) (aI j :: aI i :: st) h = ex cal k_R_plan 102 (ls) (aI (i + j) :: st) h := e_bin cal rfl
theorem u_R_plan_102 : ex cal k_R_plan 102 (ls) (aI i :: aQ (some a) :: st) h = gA h a i (ex cal k_R_plan 103 (ls) (aI (ai h a (wr i)) :: st) h) := e_ia cal rfl
theorem u_R_plan_103 (hx : aNl x7 = true) : ex cal k_R_plan 103 (x0 :: x1 :: x2 :: x3 :: x4 :: x5 :: x6 :: x7 :: y :: ls) (aI v :: st) h = ex cal k_R_plan 105 (x0 :: x1 :: x2 :: x3 :: x4 :: x5 :: x6 :: x7 :: aI v :: ls) (st) h := e_ist (ls := x0 :: x1 :: x2 :: x3 :: x4 :: x5 :: x6 :: x7 :: y :: ls) (k := 8) rfl hx (by simp only [List.length_cons]; omega)
theorem u_R_plan_105 : ex cal k_R_plan 105 (x0 :: x1 :: x2 :: x3 :: x4 :: x5 :: x6 :: x7 :: aI v :: ls) (st) h = ex cal k_R_plan 107 (x0 :: x1 :: x2 :: x3 :: x4 :: x5 :: x6 :: x7 :: aI v :: ls) (aI v :: st) h := ex_st cal (s := s_ild 8 107) rfl rfl
theorem u_R_plan_107 : ex cal k_R_plan 107 (ls) (aI i :: st) h = if 0 < wr i then ex cal k_R_plan 110 (ls) (st) h else ex cal k_R_plan 154 (ls) (st) h := e_ifle cal rfl
theorem u_R_plan_110 : ex cal k_R_plan 110 (x0 :: x1 :: x2 :: x3 :: x4 :: x5 :: x6 :: x7 :: aI v :: ls) (st) h = ex cal k_R_plan 112 (x0 :: x1 :: x2 :: x3 :: x4 :: x5 :: x6 :: x7 :: aI v :: ls) (aI v :: st) h := ex_st cal (s := s_ild 8 112) rfl rfl
theorem u_R_plan_112 : ex cal k_R_plan 112 (aQ r :: ls) (st) h = ex cal k_R_plan 113 (aQ r :: ls) (aQ r :: st) h := ex_st cal (s := s_ald 0 113) rfl rfl
theorem u_R_plan_113 : ex cal k_R_plan 113 (ls) (aQ (some a) :: st) h = gO h a 10 (ex cal k_R_plan 116 (ls) (gf h a 24 :: st) h) := e_gf cal rfl
theorem u_R_plan_116 : ex cal k_R_plan 116 (ls) (st) h = ex cal k_R_plan 119 (ls) (aI 4096 :: st) h := e_push cal rfl
theorem u_R_plan_119 : ex cal k_R_plan 119 (x0 :: x1 :: x2 :: x3 :: x4 :: x5 :: aI v :: ls) (st) h = ex cal k_R_plan 121 (x0 :: x1 :: x2 :: x3 :: x4 :: x5 :: aI v :: ls) (aI v :: st) h := ex_st cal (s := s_ild 6 121) rfl rfl
theorem u_R_plan_121 : ex cal k_R_plan 121 (ls) (st) h = ex cal k_R_plan 122 (ls) (aI 1 :: st) h := e_push cal rfl
theorem u_R_plan_122 : ex cal k_R_plan 122 (ls) (aI j :: aI i :: st) h = ex cal k_R_plan 123 (ls) (aI (i + j) :: st) h := e_bin cal rfl
theorem u_R_plan_123 : ex cal k_R_plan 123 (ls) (aI j :: aI i :: st) h = ex cal k_R_plan 124 (ls) (aI (i * j) :: st) h := e_bin cal rfl
theorem u_R_plan_124 : ex cal k_R_plan 124 (aQ r :: ls) (st) h = ex cal k_R_plan 125 (aQ r :: ls) (aQ r :: st) h := ex_st cal (s := s_ald 0 125) rfl rfl
theorem u_R_plan_125 : ex cal k_R_plan 125 (x0 :: x1 :: x2 :: aI v :: ls) (st) h = ex cal k_R_plan 126 (x0 :: x1 :: x2 :: aI v :: ls) (aI v :: st) h := ex_st cal (s := s_ild 3 126) rfl rfl
theorem u_R_plan_126 : ex cal k_R_plan 126 (x0 :: x1 :: x2 :: x3 :: x4 :: x5 :: x6 :: aI v :: ls) (st) h = ex cal k_R_plan 128 (x0 :: x1 :: x2 :: x3 :: x4 :: x5 :: x6 :: aI v :: ls) (aI v :: st) h := ex_st cal (s := s_ild 7 128) rfl rfl
theorem u_R_plan_128 (hl : Nat.ble st.length 4 = true) : ex cal k_R_plan 128 (ls) (aI z1 :: aI z0 :: aQ (some a) :: st) h = gO h a 10 (kk cal k_R_plan 131 ls st (cal M_R_lacking [aQ (some a), aI z0, aI z1] h)) := e_callV cal (ci := 10) (as := [aI z1, aI z0]) rfl (by decide) rfl (Nat.le_of_ble_eq_true hl)
theorem u_R_plan_131 : ex cal k_R_plan 131 (ls) (aI j :: aI i :: st) h = ex cal k_R_plan 132 (ls) (aI (i + j) :: st) h := e_bin cal rfl
theorem u_R_plan_132 : ex cal k_R_plan 132 (ls) (aI i :: aQ (some a) :: st) h = gA h a i (ex cal k_R_plan 133 (ls) (aI (ai h a (wr i)) :: st) h) := e_ia cal rfl
theorem u_R_plan_133 : ex cal k_R_plan 133 (ls) (aI j :: aI i :: st) h = ex cal k_R_plan 134 (ls) (aI (i + j) :: st) h := e_bin cal rfl
theorem u_R_plan_134 : ex cal k_R_plan 134 (aQ r :: ls) (st) h = ex cal k_R_plan 135 (aQ r :: ls) (aQ r :: st) h := ex_st cal (s := s_ald 0 135) rfl rfl
theorem u_R_plan_135 : ex cal k_R_plan 135 (ls) (aQ (some a) :: st) h = gO h a 10 (ex cal k_R_plan 138 (ls) (gf h a 24 :: st) h) := e_gf cal rfl
theorem u_R_plan_138 : ex cal k_R_plan 138 (ls) (st) h = ex cal k_R_plan 141 (ls) (aI 4096 :: st) h := e_push cal rfl
theorem u_R_plan_141 : ex cal k_R_plan 141 (x0 :: x1 :: x2 :: x3 :: x4 :: x5 :: aI v :: ls) (st) h = ex cal k_R_plan 143 (x0 :: x1 :: x2 :: x3 :: x4 :: x5 :: aI v :: ls) (aI v :: st) h := ex_st cal (s := s_ild 6 143) rfl rfl
theorem u_R_plan_143 : ex cal k_R_plan 143 (ls) (aI j :: aI i :: st) h = ex cal k_R_plan 144 (ls) (aI (i * j) :: st) h := e_bin cal rfl
theorem u_R_plan_144 : ex cal k_R_plan 144 (x0 :: x1 :: x2 :: aI v :: ls) (st) h = ex cal k_R_plan 145 (x0 :: x1 :: x2 :: aI v :: ls) (aI v :: st) h := ex_st cal (s := s_ild 3 145) rfl rfl
theorem u_R_plan_145 : ex cal k_R_plan 145 (ls) (aI j :: aI i :: st) h = ex cal k_R_plan 146 (ls) (aI (i + j) :: st) h := e_bin cal rfl
theorem u_R_plan_146 : ex cal k_R_plan 146 (ls) (aI i :: aQ (some a) :: st) h = gA h a i (ex cal k_R_plan 147 (ls) (aI (ai h a (wr i)) :: st) h) := e_ia cal rfl
theorem u_R_plan_147 : ex cal k_R_plan 147 (ls) (aI j :: aI i :: st) h = if wr i = wr j then ex cal k_R_plan 150 (ls) (st) h else ex cal k_R_plan 154 (ls) (st) h := e_icne cal rfl
theorem u_R_plan_150 : ex cal k_R_plan 150 (x0 :: x1 :: x2 :: x3 :: x4 :: x5 :: x6 :: aI v :: ls) (st) h = ex cal k_R_plan 152 (x0 :: x1 :: x2 :: x3 :: x4 :: x5 :: x6 :: aI v :: ls) (aI v :: st) h := ex_st cal (s := s_ild 7 152) rfl rfl
theorem u_R_plan_152 (hx : aNl x4 = true) : ex cal k_R_plan 152 (x0 :: x1 :: x2 :: x3 :: x4 :: y :: ls) (aI v :: st) h = ex cal k_R_plan 154 (x0 :: x1 :: x2 :: x3 :: x4 :: aI v :: ls) (st) h := e_ist (ls := x0 :: x1 :: x2 :: x3 :: x4 :: y :: ls) (k := 5) rfl hx (by simp only [List.length_cons]; omega)
theorem u_R_plan_154 (hx : aNl x6 = true) : ex cal k_R_plan 154 (x0 :: x1 :: x2 :: x3 :: x4 :: x5 :: x6 :: aI v :: ls) (st) h = ex cal k_R_plan 157 (x0 :: x1 :: x2 :: x3 :: x4 :: x5 :: x6 :: aI (v + 1) :: ls) (st) h := e_inc (ls := x0 :: x1 :: x2 :: x3 :: x4 :: x5 :: x6 :: aI v :: ls) (k := 7) rfl rfl hx
theorem u_R_plan_157 : ex cal k_R_plan 157 (ls) (st) h = ex cal k_R_plan 78 (ls) (st) h := ex_st cal (s := s_go 78) rfl rfl
theorem u_R_plan_160 : ex cal k_R_plan 160 (x0 :: x1 :: x2 :: x3 :: x4 :: aI v :: ls) (st) h = ex cal k_R_plan 162 (x0 :: x1 :: x2 :: x3 :: x4 :: aI v :: ls) (aI v :: st) h := ex_st cal (s := s_ild 5 162) rfl rfl
theorem u_R_plan_162 : ex cal k_R_plan 162 (ls) (aI i :: st) h = if wr i < 0 then ex cal k_R_plan 173 (ls) (st) h else ex cal k_R_plan 165 (ls) (st) h := e_iflt cal rfl
theorem u_R_plan_165 : ex cal k_R_plan 165 (aQ r :: ls) (st) h = ex cal k_R_plan 166 (aQ r :: ls) (aQ r :: st) h := ex_st cal (s := s_ald 0 166) rfl rfl
theorem u_R_plan_166 : ex cal k_R_plan 166 (x0 :: x1 :: x2 :: aI v :: ls) (st) h = ex cal k_R_plan 167 (x0 :: x1 :: x2 :: aI v :: ls) (aI v :: st) h := ex_st cal (s := s_ild 3 167) rfl rfl
theorem u_R_plan_167 : ex cal k_R_plan 167 (x0 :: x1 :: x2 :: x3 :: x4 :: aI v :: ls) (st) h = ex cal k_R_plan 169 (x0 :: x1 :: x2 :: x3 :: x4 :: aI v :: ls) (aI v :: st) h := ex_st cal (s := s_ild 5 169) rfl rfl
theorem u_R_plan_169 (hl : Nat.ble st.length 4 = true) : ex cal k_R_plan 169 (ls) (aI z1 :: aI z0 :: aQ (some a) :: st) h = gO h a 10 (kk cal k_R_plan 172 ls st (cal M_R_lacking [aQ (some a), aI z0, aI z1] h)) := e_callV cal (ci := 10) (as := [aI z1, aI z0]) rfl (by decide) rfl (Nat.le_of_ble_eq_true hl)
theorem u_R_plan_172 (hx : aNl x2 = true) : ex cal k_R_plan 172 (x0 :: x1 :: x2 :: y :: ls) (aI v :: st) h = ex cal k_R_plan 173 (x0 :: x1 :: x2 :: aI v :: ls) (st) h := e_ist (ls := x0 :: x1 :: x2 :: y :: ls) (k := 3) rfl hx (by simp only [List.length_cons]; omega)
theorem u_R_plan_173 (hx : aNl x5 = true) : ex cal k_R_plan 173 (x0 :: x1 :: x2 :: x3 :: x4 :: x5 :: aI v :: ls) (st) h = ex cal k_R_plan 176 (x0 :: x1 :: x2 :: x3 :: x4 :: x5 :: aI (v + 1) :: ls) (st) h := e_inc (ls := x0 :: x1 :: x2 :: x3 :: x4 :: x5 :: aI v :: ls) (k := 6) rfl rfl hx
theorem u_R_plan_176 : ex cal k_R_plan 176 (ls) (st) h = ex cal k_R_plan 66 (ls) (st) h := ex_st cal (s := s_go 66) rfl rfl
theorem u_R_plan_179 : ex cal k_R_plan 179 (x0 :: x1 :: x2 :: x3 :: x4 :: aI v :: ls) (st) h = ex cal k_R_plan 181 (x0 :: x1 :: x2 :: x3 :: x4 :: aI v :: ls) (aI v :: st) h := ex_st cal (s := s_ild 5 181) rfl rfl
theorem u_R_plan_181 : ex cal k_R_plan 181 (ls) ([aI v]) h = some (some (aI v), h) := e_ret1 cal rfl
theorem n_R_plan (d : Nat) : ev (d + 1) M_R_plan [aQ (some a), aI z0, aI z1] h = ex (ev d) k_R_plan 0 [aQ (some a), aI z0, aI z1, aU, aU, aU, aU, aU, aU] [] h := rfl
theorem u_R_sum_0 : ex cal k_R_sum 0 (aQ r :: ls) (st) h = ex cal k_R_sum 1 (aQ r :: ls) (aQ r :: st) h := ex_st cal (s := s_ald 0 1) rfl rfl
theorem u_R_sum_1 : ex cal k_R_sum 1 (x0 :: aI v :: ls) (st) h = ex cal k_R_sum 2 (x0 :: aI v :: ls) (aI v :: st) h := ex_st cal (s := s_ild 1 2) rfl rfl
theorem u_R_sum_2 (hl : Nat.ble st.length 4 = true) : ex cal k_R_sum 2 (ls) (aI z0 :: aQ (some a) :: st) h = gO h a 10 (kk cal k_R_sum 5 ls st (cal M_R_isPerson [aQ (some a), aI z0] h)) := e_callV cal (ci := 10) (as := [aI z0]) rfl (by decide) rfl (Nat.le_of_ble_eq_true hl)
theorem u_R_sum_5 : ex cal k_R_sum 5 (ls) (aI i :: st) h = if wr i = 0 then ex cal k_R_sum 20 (ls) (st) h else ex cal k_R_sum 8 (ls) (st) h := e_ifeq cal rfl
theorem u_R_sum_8 : ex cal k_R_sum 8 (x0 :: x1 :: aI v :: ls) (st) h = ex cal k_R_sum 9 (x0 :: x1 :: aI v :: ls) (aI v :: st) h := ex_st cal (s := s_ild 2 9) rfl rfl
theorem u_R_sum_9 : ex cal k_R_sum 9 (ls) (st) h = ex cal k_R_sum 10 (ls) (aI (-1) :: st) h := e_push cal rfl
theorem u_R_sum_10 : ex cal k_R_sum 10 (ls) (aI j :: aI i :: st) h = if wr i = wr j then ex cal k_R_sum 22 (ls) (st) h else ex cal k_R_sum 13 (ls) (st) h := e_iceq cal rfl
theorem u_R_sum_13 : ex cal k_R_sum 13 (x0 :: x1 :: aI v :: ls) (st) h = ex cal k_R_sum 14 (x0 :: x1 :: aI v :: ls) (aI v :: st) h := ex_st cal (s := s_ild 2 14) rfl rfl
theorem u_R_sum_14 (hl : Nat.ble st.length 4 = true) : ex cal k_R_sum 14 (ls) (aI z0 :: st) h = kk cal k_R_sum 17 ls st (cal M_R_isFile [aI z0] h) := e_call cal (as := [aI z0]) rfl rfl (Nat.le_of_ble_eq_true hl)
theorem u_R_sum_17 : ex cal k_R_sum 17 (ls) (aI i :: st) h = if wr i = 0 then ex cal k_R_sum 20 (ls) (st) h else ex cal k_R_sum 22 (ls) (st) h := e_ifne cal rfl
theorem u_R_sum_20 : ex cal k_R_sum 20 (ls) (st) h = ex cal k_R_sum 21 (ls) (aI (-1) :: st) h := e_push cal rfl
theorem u_R_sum_21 : ex cal k_R_sum 21 (ls) ([aI v]) h = some (some (aI v), h) := e_ret1 cal rfl
theorem u_R_sum_22 : ex cal k_R_sum 22 (ls) (st) h = ex cal k_R_sum 23 (ls) (aI 0 :: st) h := e_push cal rfl
theorem u_R_sum_23 (hx : aNl x2 = true) : ex cal k_R_sum 23 (x0 :: x1 :: x2 :: y :: ls) (aI v :: st) h = ex cal k_R_sum 24 (x0 :: x1 :: x2 :: aI v :: ls) (st) h := e_ist (ls := x0 :: x1 :: x2 :: y :: ls) (k := 3) rfl hx (by simp only [List.length_cons]; omega)
theorem u_R_sum_24 : ex cal k_R_sum 24 (ls) (st) h = ex cal k_R_sum 25 (ls) (aI 0 :: st) h := e_push cal rfl
theorem u_R_sum_25 (hx : aNl x3 = true) : ex cal k_R_sum 25 (x0 :: x1 :: x2 :: x3 :: y :: ls) (aI v :: st) h = ex cal k_R_sum 27 (x0 :: x1 :: x2 :: x3 :: aI v :: ls) (st) h := e_ist (ls := x0 :: x1 :: x2 :: x3 :: y :: ls) (k := 4) rfl hx (by simp only [List.length_cons]; omega)
theorem u_R_sum_27 : ex cal k_R_sum 27 (x0 :: x1 :: x2 :: x3 :: aI v :: ls) (st) h = ex cal k_R_sum 29 (x0 :: x1 :: x2 :: x3 :: aI v :: ls) (aI v :: st) h := ex_st cal (s := s_ild 4 29) rfl rfl
theorem u_R_sum_29 : ex cal k_R_sum 29 (ls) (st) h = ex cal k_R_sum 31 (ls) (aI 6 :: st) h := e_push cal rfl
theorem u_R_sum_31 : ex cal k_R_sum 31 (ls) (aI j :: aI i :: st) h = if wr i < wr j then ex cal k_R_sum 34 (ls) (st) h else ex cal k_R_sum 162 (ls) (st) h := e_icge cal rfl
theorem u_R_sum_34 : ex cal k_R_sum 34 (ls) (st) h = ex cal k_R_sum 35 (ls) (aI 0 :: st) h := e_push cal rfl
theorem u_R_sum_35 (hx : aNl x4 = true) : ex cal k_R_sum 35 (x0 :: x1 :: x2 :: x3 :: x4 :: y :: ls) (aI v :: st) h = ex cal k_R_sum 37 (x0 :: x1 :: x2 :: x3 :: x4 :: aI v :: ls) (st) h := e_ist (ls := x0 :: x1 :: x2 :: x3 :: x4 :: y :: ls) (k := 5) rfl hx (by simp only [List.length_cons]; omega)
theorem u_R_sum_37 : ex cal k_R_sum 37 (x0 :: x1 :: x2 :: x3 :: x4 :: aI v :: ls) (st) h = ex cal k_R_sum 39 (x0 :: x1 :: x2 :: x3 :: x4 :: aI v :: ls) (aI v :: st) h := ex_st cal (s := s_ild 5 39) rfl rfl
theorem u_R_sum_39 : ex cal k_R_sum 39 (aQ r :: ls) (st) h = ex cal k_R_sum 40 (aQ r :: ls) (aQ r :: st) h := ex_st cal (s := s_ald 0 40) rfl rfl
theorem u_R_sum_40 : ex cal k_R_sum 40 (ls) (aQ (some a) :: st) h = gO h a 10 (ex cal k_R_sum 43 (ls) (gf h a 1 :: st) h) := e_gf cal rfl
theorem u_R_sum_43 : ex cal k_R_sum 43 (x0 :: x1 :: x2 :: x3 :: aI v :: ls) (st) h = ex cal k_R_sum 45 (x0 :: x1 :: x2 :: x3 :: aI v :: ls) (aI v :: st) h := ex_st cal (s := s_ild 4 45) rfl rfl
theorem u_R_sum_45 : ex cal k_R_sum 45 (ls) (aI i :: aQ (some a) :: st) h = gA h a i (ex cal k_R_sum 46 (ls) (aI (ai h a (wr i)) :: st) h) := e_ia cal rfl
theorem u_R_sum_46 : ex cal k_R_sum 46 (ls) (aI j :: aI i :: st) h = if wr i < wr j then ex cal k_R_sum 49 (ls) (st) h else ex cal k_R_sum 156 (ls) (st) h := e_icge cal rfl
theorem u_R_sum_49 : ex cal k_R_sum 49 (x0 :: x1 :: aI v :: ls) (st) h = ex cal k_R_sum 50 (x0 :: x1 :: aI v :: ls) (aI v :: st) h := ex_st cal (s := s_ild 2 50) rfl rfl
theorem u_R_sum_50 : ex cal k_R_sum 50 (ls) (st) h = ex cal k_R_sum 51 (ls) (aI (-1) :: st) h := e_push cal rfl
theorem u_R_sum_51 : ex cal k_R_sum 51 (ls) (aI j :: aI i :: st) h = if wr i = wr j then ex cal k_R_sum 60 (ls) (st) h else ex cal k_R_sum 54 (ls) (st) h := e_iceq cal rfl
theorem u_R_sum_54 : ex cal k_R_sum 54 (x0 :: x1 :: aI v :: ls) (st) h = ex cal k_R_sum 55 (x0 :: x1 :: aI v :: ls) (aI v :: st) h := ex_st cal (s := s_ild 2 55) rfl rfl
theorem u_R_sum_55 : ex cal k_R_sum 55 (x0 :: x1 :: x2 :: x3 :: aI v :: ls) (st) h = ex cal k_R_sum 57 (x0 :: x1 :: x2 :: x3 :: aI v :: ls) (aI v :: st) h := ex_st cal (s := s_ild 4 57) rfl rfl
theorem u_R_sum_57 : ex cal k_R_sum 57 (ls) (aI j :: aI i :: st) h = if wr i = wr j then ex cal k_R_sum 60 (ls) (st) h else ex cal k_R_sum 156 (ls) (st) h := e_icne cal rfl
theorem u_R_sum_60 : ex cal k_R_sum 60 (aQ r :: ls) (st) h = ex cal k_R_sum 61 (aQ r :: ls) (aQ r :: st) h := ex_st cal (s := s_ald 0 61) rfl rfl
theorem u_R_sum_61 : ex cal k_R_sum 61 (ls) (aQ (some a) :: st) h = gO h a 10 (ex cal k_R_sum 64 (ls) (gf h a 0 :: st) h) := e_gf cal rfl
theorem u_R_sum_64 : ex cal k_R_sum 64 (ls) (st) h = ex cal k_R_sum 67 (ls) (aI 540 :: st) h := e_push cal rfl
theorem u_R_sum_67 : ex cal k_R_sum 67 (x0 :: x1 :: x2 :: x3 :: aI v :: ls) (st) h = ex cal k_R_sum 69 (x0 :: x1 :: x2 :: x3 :: aI v :: ls) (aI v :: st) h := ex_st cal (s := s_ild 4 69) rfl rfl
theorem u_R_sum_69 : ex cal k_R_sum 69 (ls) (aI j :: aI i :: st) h = ex cal k_R_sum 70 (ls) (aI (i * j) :: st) h := e_bin cal rfl
theorem u_R_sum_70 : ex cal k_R_sum 70 (ls) (st) h = ex cal k_R_sum 72 (ls) (aI 27 :: st) h := e_push cal rfl
theorem u_R_sum_72 : ex cal k_R_sum 72 (x0 :: x1 :: x2 :: x3 :: x4 :: aI v :: ls) (st) h = ex cal k_R_sum 74 (x0 :: x1 :: x2 :: x3 :: x4 :: aI v :: ls) (aI v :: st) h := ex_st cal (s := s_ild 5 74) rfl rfl
theorem u_R_sum_74 : ex cal k_R_sum 74 (ls) (aI j :: aI i :: st) h = ex cal k_R_sum 75 (ls) (aI (i * j) :: st) h := e_bin cal rfl
theorem u_R_sum_75 : ex cal k_R_sum 75 (ls) (aI j :: aI i :: st) h = ex cal k_R_sum 76 (ls) (aI (i + j) :: st) h := e_bin cal rfl
theorem u_R_sum_76 : ex cal k_R_sum 76 (ls) (st) h = ex cal k_R_sum 77 (ls) (aI 1 :: st) h := e_push cal rfl
theorem u_R_sum_77 : ex cal k_R_sum 77 (ls) (aI j :: aI i :: st) h = ex cal k_R_sum 78 (ls) (aI (i + j) :: st) h := e_bin cal rfl
theorem u_R_sum_78 : ex cal k_R_sum 78 (ls) (aI i :: aQ (some a) :: st) h = gA h a i (ex cal k_R_sum 79 (ls) (aI (ai h a (wr i)) :: st) h) := e_ia cal rfl
theorem u_R_sum_79 (hx : aNl x5 = true) : ex cal k_R_sum 79 (x0 :: x1 :: x2 :: x3 :: x4 :: x5 :: y :: ls) (aI v :: st) h = ex cal k_R_sum 81 (x0 :: x1 :: x2 :: x3 :: x4 :: x5 :: aI v :: ls) (st) h := e_ist (ls := x0 :: x1 :: x2 :: x3 :: x4 :: x5 :: y :: ls) (k := 6) rfl hx (by simp only [List.length_cons]; omega)
theorem u_R_sum_81 : ex cal k_R_sum 81 (aQ r :: ls) (st) h = ex cal k_R_sum 82 (aQ r :: ls) (aQ r :: st) h := ex_st cal (s := s_ald 0 82) rfl rfl
theorem u_R_sum_82 : ex cal k_R_sum 82 (ls) (aQ (some a) :: st) h = gO h a 10 (ex cal k_R_sum 85 (ls) (gf h a 7 :: st) h) := e_gf cal rfl
theorem u_R_sum_85 : ex cal k_R_sum 85 (x0 :: x1 :: x2 :: x3 :: x4 :: x5 :: aI v :: ls) (st) h = ex cal k_R_sum 87 (x0 :: x1 :: x2 :: x3 :: x4 :: x5 :: aI v :: ls) (aI v :: st) h := ex_st cal (s := s_ild 6 87) rfl rfl
theorem u_R_sum_87 : ex cal k_R_sum 87 (ls) (aI i :: aQ (some a) :: st) h = gA h a i (ex cal k_R_sum 88 (ls) (aI (ai h a (wr i)) :: st) h) := e_ia cal rfl
theorem u_R_sum_88 : ex cal k_R_sum 88 (x0 :: aI v :: ls) (st) h = ex cal k_R_sum 89 (x0 :: aI v :: ls) (aI v :: st) h := ex_st cal (s := s_ild 1 89) rfl rfl
theorem u_R_sum_89 : ex cal k_R_sum 89 (ls) (aI j :: aI i :: st) h = if wr i = wr j then ex cal k_R_sum 92 (ls) (st) h else ex cal k_R_sum 96 (ls) (st) h := e_icne cal rfl
theorem u_R_sum_92 : ex cal k_R_sum 92 (ls) (st) h = ex cal k_R_sum 93 (ls) (aI 1 :: st) h := e_push cal rfl
theorem u_R_sum_93 : ex cal k_R_sum 93 (ls) (st) h = ex cal k_R_sum 97 (ls) (st) h := ex_st cal (s := s_go 97) rfl rfl
theorem u_R_sum_96 : ex cal k_R_sum 96 (ls) (st) h = ex cal k_R_sum 97 (ls) (aI 0 :: st) h := e_push cal rfl
theorem u_R_sum_97 (hx : aNl x6 = true) : ex cal k_R_sum 97 (x0 :: x1 :: x2 :: x3 :: x4 :: x5 :: x6 :: y :: ls) (aI v :: st) h = ex cal k_R_sum 99 (x0 :: x1 :: x2 :: x3 :: x4 :: x5 :: x6 :: aI v :: ls) (st) h := e_ist (ls := x0 :: x1 :: x2 :: x3 :: x4 :: x5 :: x6 :: y :: ls) (k := 7) rfl hx (by simp only [List.length_cons]; omega)
theorem u_R_sum_99 : ex cal k_R_sum 99 (aQ r :: ls) (st) h = ex cal k_R_sum 100 (aQ r :: ls) (aQ r :: st) h := ex_st cal (s := s_ald 0 100) rfl rfl
theorem u_R_sum_100 : ex cal k_R_sum 100 (ls) (aQ (some a) :: st) h = gO h a 10 (ex cal k_R_sum 103 (ls) (gf h a 5 :: st) h) := e_gf cal rfl
theorem u_R_sum_103 : ex cal k_R_sum 103 (x0 :: x1 :: x2 :: x3 :: x4 :: x5 :: aI v :: ls) (st) h = ex cal k_R_sum 105 (x0 :: x1 :: x2 :: x3 :: x4 :: x5 :: aI v :: ls) (aI v :: st) h := ex_st cal (s := s_ild 6 105) rfl rfl
theorem u_R_sum_105 : ex cal k_R_sum 105 (ls) (aI i :: aQ (some a) :: st) h = gA h a i (ex cal k_R_sum 106 (ls) (aI (ai h a (wr i)) :: st) h) := e_ia cal rfl
theorem u_R_sum_106 : ex cal k_R_sum 106 (ls) (st) h = ex cal k_R_sum 107 (ls) (aI 3 :: st) h := e_push cal rfl
theorem u_R_sum_107 : ex cal k_R_sum 107 (ls) (aI j :: aI i :: st) h = if wr i = wr j then ex cal k_R_sum 110 (ls) (st) h else ex cal k_R_sum 137 (ls) (st) h := e_icne cal rfl
theorem u_R_sum_110 : ex cal k_R_sum 110 (x0 :: x1 :: x2 :: aI v :: ls) (st) h = ex cal k_R_sum 111 (x0 :: x1 :: x2 :: aI v :: ls) (aI v :: st) h := ex_st cal (s := s_ild 3 111) rfl rfl
theorem u_R_sum_111 : ex cal k_R_sum 111 (x0 :: x1 :: x2 :: x3 :: x4 :: x5 :: x6 :: aI v :: ls) (st) h = ex cal k_R_sum 113 (x0 :: x1 :: x2 :: x3 :: x4 :: x5 :: x6 :: aI v :: ls) (aI v :: st) h := ex_st cal (s := s_ild 7 113) rfl rfl
theorem u_R_sum_113 : ex cal k_R_sum 113 (ls) (aI i :: st) h = if wr i = 0 then ex cal k_R_sum 116 (ls) (st) h else ex cal k_R_sum 127 (ls) (st) h := e_ifne cal rfl
theorem u_R_sum_116 : ex cal k_R_sum 116 (aQ r :: ls) (st) h = ex cal k_R_sum 117 (aQ r :: ls) (aQ r :: st) h := ex_st cal (s := s_ald 0 117) rfl rfl
theorem u_R_sum_117 : ex cal k_R_sum 117 (ls) (aQ (some a) :: st) h = gO h a 10 (ex cal k_R_sum 120 (ls) (gf h a 8 :: st) h) := e_gf cal rfl
theorem u_R_sum_120 : ex cal k_R_sum 120 (x0 :: x1 :: x2 :: x3 :: x4 :: x5 :: aI v :: ls) (st) h = ex cal k_R_sum 122 (x0 :: x1 :: x2 :: x3 :: x4 :: x5 :: aI v :: ls) (aI v :: st) h := ex_st cal (s := s_ild 6 122) rfl rfl
theorem u_R_sum_122 : ex cal k_R_sum 122 (ls) (aI i :: aQ (some a) :: st) h = gA h a i (ex cal k_R_sum 123 (ls) (aI (ai h a (wr i)) :: st) h) := e_ia cal rfl
theorem u_R_sum_123 : ex cal k_R_sum 123 (x0 :: aI v :: ls) (st) h = ex cal k_R_sum 124 (x0 :: aI v :: ls) (aI v :: st) h := ex_st cal (s := s_ild 1 124) rfl rfl
theorem u_R_sum_124 : ex cal k_R_sum 124 (ls) (aI j :: aI i :: st) h = if wr i = wr j then ex cal k_R_sum 127 (ls) (st) h else ex cal k_R_sum 131 (ls) (st) h := e_icne cal rfl
theorem u_R_sum_127 : ex cal k_R_sum 127 (ls) (st) h = ex cal k_R_sum 128 (ls) (aI 1 :: st) h := e_push cal rfl
theorem u_R_sum_128 : ex cal k_R_sum 128 (ls) (st) h = ex cal k_R_sum 132 (ls) (st) h := ex_st cal (s := s_go 132) rfl rfl
theorem u_R_sum_131 : ex cal k_R_sum 131 (ls) (st) h = ex cal k_R_sum 132 (ls) (aI 0 :: st) h := e_push cal rfl
theorem u_R_sum_132 : ex cal k_R_sum 132 (ls) (aI j :: aI i :: st) h = ex cal k_R_sum 133 (ls) (aI (i + j) :: st) h := e_bin cal rfl
theorem u_R_sum_133 (hx : aNl x2 = true) : ex cal k_R_sum 133 (x0 :: x1 :: x2 :: y :: ls) (aI v :: st) h = ex cal k_R_sum 134 (x0 :: x1 :: x2 :: aI v :: ls) (st) h := e_ist (ls := x0 :: x1 :: x2 :: y :: ls) (k := 3) rfl hx (by simp only [List.length_cons]; omega)
theorem u_R_sum_134 : ex cal k_R_sum 134 (ls) (st) h = ex cal k_R_sum 150 (ls) (st) h := ex_st cal (s := s_go 150) rfl rfl
theorem u_R_sum_137 : ex cal k_R_sum 137 (x0 :: x1 :: x2 :: aI v :: ls) (st) h = ex cal k_R_sum 138 (x0 :: x1 :: x2 :: aI v :: ls) (aI v :: st) h := ex_st cal (s := s_ild 3 138) rfl rfl
theorem u_R_sum_138 : ex cal k_R_sum 138 (x0 :: x1 :: x2 :: x3 :: x4 :: x5 :: x6 :: aI v :: ls) (st) h = ex cal k_R_sum 140 (x0 :: x1 :: x2 :: x3 :: x4 :: x5 :: x6 :: aI v :: ls) (aI v :: st) h := ex_st cal (s := s_ild 7 140) rfl rfl
theorem u_R_sum_140 : ex cal k_R_sum 140 (ls) (aI i :: st) h = if wr i = 0 then ex cal k_R_sum 147 (ls) (st) h else ex cal k_R_sum 143 (ls) (st) h := e_ifeq cal rfl
theorem u_R_sum_143 : ex cal k_R_sum 143 (ls) (st) h = ex cal k_R_sum 144 (ls) (aI 2 :: st) h := e_push cal rfl
theorem u_R_sum_144 : ex cal k_R_sum 144 (ls) (st) h = ex cal k_R_sum 148 (ls) (st) h := ex_st cal (s := s_go 148) rfl rfl
theorem u_R_sum_147 : ex cal k_R_sum 147 (ls) (st) h = ex cal k_R_sum 148 (ls) (aI 0 :: st) h := e_push cal rfl
theorem u_R_sum_148 : ex cal k_R_sum 148 (ls) (aI j :: aI i :: st) h = ex cal k_R_sum 149 (ls) (aI (i + j) :: st) h := e_bin cal rfl
theorem u_R_sum_149 (hx : aNl x2 = true) : ex cal k_R_sum 149 (x0 :: x1 :: x2 :: y :: ls) (aI v :: st) h = ex cal k_R_sum 150 (x0 :: x1 :: x2 :: aI v :: ls) (st) h := e_ist (ls := x0 :: x1 :: x2 :: y :: ls) (k := 3) rfl hx (by simp only [List.length_cons]; omega)
theorem u_R_sum_150 (hx : aNl x4 = true) : ex cal k_R_sum 150 (x0 :: x1 :: x2 :: x3 :: x4 :: aI v :: ls) (st) h = ex cal k_R_sum 153 (x0 :: x1 :: x2 :: x3 :: x4 :: aI (v + 1) :: ls) (st) h := e_inc (ls := x0 :: x1 :: x2 :: x3 :: x4 :: aI v :: ls) (k := 5) rfl rfl hx
theorem u_R_sum_153 : ex cal k_R_sum 153 (ls) (st) h = ex cal k_R_sum 37 (ls) (st) h := ex_st cal (s := s_go 37) rfl rfl
theorem u_R_sum_156 (hx : aNl x3 = true) : ex cal k_R_sum 156 (x0 :: x1 :: x2 :: x3 :: aI v :: ls) (st) h = ex cal k_R_sum 159 (x0 :: x1 :: x2 :: x3 :: aI (v + 1) :: ls) (st) h := e_inc (ls := x0 :: x1 :: x2 :: x3 :: aI v :: ls) (k := 4) rfl rfl hx
theorem u_R_sum_159 : ex cal k_R_sum 159 (ls) (st) h = ex cal k_R_sum 27 (ls) (st) h := ex_st cal (s := s_go 27) rfl rfl
theorem u_R_sum_162 : ex cal k_R_sum 162 (x0 :: x1 :: x2 :: aI v :: ls) (st) h = ex cal k_R_sum 163 (x0 :: x1 :: x2 :: aI v :: ls) (aI v :: st) h := ex_st cal (s := s_ild 3 163) rfl rfl
theorem u_R_sum_163 : ex cal k_R_sum 163 (ls) ([aI v]) h = some (some (aI v), h) := e_ret1 cal rfl
theorem n_R_sum (d : Nat) : ev (d + 1) M_R_sum [aQ (some a), aI z0, aI z1] h = ex (ev d) k_R_sum 0 [aQ (some a), aI z0, aI z1, aU, aU, aU, aU, aU] [] h := rfl
theorem u_R_count_0 : ex cal k_R_count 0 (x0 :: aI v :: ls) (st) h = ex cal k_R_count 1 (x0 :: aI v :: ls) (aI v :: st) h := ex_st cal (s := s_ild 1 1) rfl rfl
theorem u_R_count_1 : ex cal k_R_count 1 (ls) (aI i :: st) h = ex cal k_R_count (swt [(0, 48), (1, 55), (2, 62), (3, 69), (4, 76), (5, 83), (6, 93), (7, 104)] 109 (wr i)) ls st h := e_sw cal rfl
theorem u_R_count_48 : ex cal k_R_count 48 (aQ r :: ls) (st) h = ex cal k_R_count 49 (aQ r :: ls) (aQ r :: st) h := ex_st cal (s := s_ald 0 49) rfl rfl
theorem u_R_count_49 : ex cal k_R_count 49 (ls) (aQ (some a) :: st) h = gO h a 10 (ex cal k_R_count 52 (ls) (gf h a 14 :: st) h) := e_gf cal rfl
theorem u_R_count_52 : ex cal k_R_count 52 (ls) (st) h = ex cal k_R_count 53 (ls) (aI 0 :: st) h := e_push cal rfl
theorem u_R_count_53 : ex cal k_R_count 53 (ls) (aI i :: aQ (some a) :: st) h = gA h a i (ex cal k_R_count 54 (ls) (aI (ai h a (wr i)) :: st) h) := e_ia cal rfl
theorem u_R_count_54 : ex cal k_R_count 54 (ls) ([aI v]) h = some (some (aI v), h) := e_ret1 cal rfl
theorem u_R_count_55 : ex cal k_R_count 55 (aQ r :: ls) (st) h = ex cal k_R_count 56 (aQ r :: ls) (aQ r :: st) h := ex_st cal (s := s_ald 0 56) rfl rfl
theorem u_R_count_56 : ex cal k_R_count 56 (ls) (aQ (some a) :: st) h = gO h a 10 (ex cal k_R_count 59 (ls) (gf h a 14 :: st) h) := e_gf cal rfl
theorem u_R_count_59 : ex cal k_R_count 59 (ls) (st) h = ex cal k_R_count 60 (ls) (aI 1 :: st) h := e_push cal rfl
theorem u_R_count_60 : ex cal k_R_count 60 (ls) (aI i :: aQ (some a) :: st) h = gA h a i (ex cal k_R_count 61 (ls) (aI (ai h a (wr i)) :: st) h) := e_ia cal rfl
theorem u_R_count_61 : ex cal k_R_count 61 (ls) ([aI v]) h = some (some (aI v), h) := e_ret1 cal rfl
theorem u_R_count_62 : ex cal k_R_count 62 (aQ r :: ls) (st) h = ex cal k_R_count 63 (aQ r :: ls) (aQ r :: st) h := ex_st cal (s := s_ald 0 63) rfl rfl
theorem u_R_count_63 : ex cal k_R_count 63 (ls) (aQ (some a) :: st) h = gO h a 10 (ex cal k_R_count 66 (ls) (gf h a 14 :: st) h) := e_gf cal rfl
theorem u_R_count_66 : ex cal k_R_count 66 (ls) (st) h = ex cal k_R_count 67 (ls) (aI 4 :: st) h := e_push cal rfl
theorem u_R_count_67 : ex cal k_R_count 67 (ls) (aI i :: aQ (some a) :: st) h = gA h a i (ex cal k_R_count 68 (ls) (aI (ai h a (wr i)) :: st) h) := e_ia cal rfl
theorem u_R_count_68 : ex cal k_R_count 68 (ls) ([aI v]) h = some (some (aI v), h) := e_ret1 cal rfl
theorem u_R_count_69 : ex cal k_R_count 69 (aQ r :: ls) (st) h = ex cal k_R_count 70 (aQ r :: ls) (aQ r :: st) h := ex_st cal (s := s_ald 0 70) rfl rfl
theorem u_R_count_70 : ex cal k_R_count 70 (ls) (aQ (some a) :: st) h = gO h a 10 (ex cal k_R_count 73 (ls) (gf h a 14 :: st) h) := e_gf cal rfl
theorem u_R_count_73 : ex cal k_R_count 73 (ls) (st) h = ex cal k_R_count 74 (ls) (aI 5 :: st) h := e_push cal rfl
theorem u_R_count_74 : ex cal k_R_count 74 (ls) (aI i :: aQ (some a) :: st) h = gA h a i (ex cal k_R_count 75 (ls) (aI (ai h a (wr i)) :: st) h) := e_ia cal rfl
theorem u_R_count_75 : ex cal k_R_count 75 (ls) ([aI v]) h = some (some (aI v), h) := e_ret1 cal rfl
theorem u_R_count_76 : ex cal k_R_count 76 (aQ r :: ls) (st) h = ex cal k_R_count 77 (aQ r :: ls) (aQ r :: st) h := ex_st cal (s := s_ald 0 77) rfl rfl
theorem u_R_count_77 : ex cal k_R_count 77 (ls) (aQ (some a) :: st) h = gO h a 10 (ex cal k_R_count 80 (ls) (gf h a 14 :: st) h) := e_gf cal rfl
theorem u_R_count_80 : ex cal k_R_count 80 (ls) (st) h = ex cal k_R_count 81 (ls) (aI 2 :: st) h := e_push cal rfl
theorem u_R_count_81 : ex cal k_R_count 81 (ls) (aI i :: aQ (some a) :: st) h = gA h a i (ex cal k_R_count 82 (ls) (aI (ai h a (wr i)) :: st) h) := e_ia cal rfl
theorem u_R_count_82 : ex cal k_R_count 82 (ls) ([aI v]) h = some (some (aI v), h) := e_ret1 cal rfl
theorem u_R_count_83 : ex cal k_R_count 83 (aQ r :: ls) (st) h = ex cal k_R_count 84 (aQ r :: ls) (aQ r :: st) h := ex_st cal (s := s_ald 0 84) rfl rfl
theorem u_R_count_84 : ex cal k_R_count 84 (ls) (aQ (some a) :: st) h = gO h a 10 (ex cal k_R_count 87 (ls) (gf h a 14 :: st) h) := e_gf cal rfl
theorem u_R_count_87 : ex cal k_R_count 87 (ls) (st) h = ex cal k_R_count 88 (ls) (aI 3 :: st) h := e_push cal rfl
theorem u_R_count_88 : ex cal k_R_count 88 (ls) (aI i :: aQ (some a) :: st) h = gA h a i (ex cal k_R_count 89 (ls) (aI (ai h a (wr i)) :: st) h) := e_ia cal rfl
theorem u_R_count_89 (hl : Nat.ble st.length 4 = true) : ex cal k_R_count 89 (ls) (aI z0 :: st) h = kk cal k_R_count 92 ls st (cal M_R_bits [aI z0] h) := e_call cal (as := [aI z0]) rfl rfl (Nat.le_of_ble_eq_true hl)
theorem u_R_count_92 : ex cal k_R_count 92 (ls) ([aI v]) h = some (some (aI v), h) := e_ret1 cal rfl
theorem u_R_count_93 : ex cal k_R_count 93 (aQ r :: ls) (st) h = ex cal k_R_count 94 (aQ r :: ls) (aQ r :: st) h := ex_st cal (s := s_ald 0 94) rfl rfl
theorem u_R_count_94 : ex cal k_R_count 94 (ls) (st) h = ex cal k_R_count 95 (ls) (aI (-1) :: st) h := e_push cal rfl
theorem u_R_count_95 (hl : Nat.ble st.length 4 = true) : ex cal k_R_count 95 (ls) (aI z0 :: aQ (some a) :: st) h = gO h a 10 (kk cal k_R_count 98 ls st (cal M_R_loneAt [aQ (some a), aI z0] h)) := e_callV cal (ci := 10) (as := [aI z0]) rfl (by decide) rfl (Nat.le_of_ble_eq_true hl)
theorem u_R_count_98 (hx : aNl x1 = true) : ex cal k_R_count 98 (x0 :: x1 :: y :: ls) (aI v :: st) h = ex cal k_R_count 99 (x0 :: x1 :: aI v :: ls) (st) h := e_ist (ls := x0 :: x1 :: y :: ls) (k := 2) rfl hx (by simp only [List.length_cons]; omega)
theorem u_R_count_99 : ex cal k_R_count 99 (aQ r :: ls) (st) h = ex cal k_R_count 100 (aQ r :: ls) (aQ r :: st) h := ex_st cal (s := s_ald 0 100) rfl rfl
theorem u_R_count_100 : ex cal k_R_count 100 (ls) (aQ (some a) :: st) h = gO h a 10 (ex cal k_R_count 103 (ls) (gf h a 23 :: st) h) := e_gf cal rfl
theorem u_R_count_103 : ex cal k_R_count 103 (ls) ([aI v]) h = some (some (aI v), h) := e_ret1 cal rfl
theorem u_R_count_104 : ex cal k_R_count 104 (aQ r :: ls) (st) h = ex cal k_R_count 105 (aQ r :: ls) (aQ r :: st) h := ex_st cal (s := s_ald 0 105) rfl rfl
theorem u_R_count_105 : ex cal k_R_count 105 (ls) (aQ (some a) :: st) h = gO h a 10 (ex cal k_R_count 108 (ls) (gf h a 28 :: st) h) := e_gf cal rfl
theorem u_R_count_108 : ex cal k_R_count 108 (ls) ([aI v]) h = some (some (aI v), h) := e_ret1 cal rfl
theorem u_R_count_109 : ex cal k_R_count 109 (ls) (st) h = ex cal k_R_count 110 (ls) (aI (-1) :: st) h := e_push cal rfl
theorem u_R_count_110 : ex cal k_R_count 110 (ls) ([aI v]) h = some (some (aI v), h) := e_ret1 cal rfl
theorem n_R_count (d : Nat) : ev (d + 1) M_R_count [aQ (some a), aI z0] h = ex (ev d) k_R_count 0 [aQ (some a), aI z0, aU] [] h := rfl
theorem u_R_notes_0 : ex cal k_R_notes 0 (aQ r :: ls) (st) h = ex cal k_R_notes 1 (aQ r :: ls) (aQ r :: st) h := ex_st cal (s := s_ald 0 1) rfl rfl
theorem u_R_notes_1 : ex cal k_R_notes 1 (ls) (aQ (some a) :: st) h = gO h a 10 (ex cal k_R_notes 4 (ls) (gf h a 28 :: st) h) := e_gf cal rfl
theorem u_R_notes_4 : ex cal k_R_notes 4 (ls) (st) h = ex cal k_R_notes 6 (ls) (aI 50 :: st) h := e_push cal rfl
theorem u_R_notes_6 : ex cal k_R_notes 6 (ls) (aI j :: aI i :: st) h = if wr i < wr j then ex cal k_R_notes 9 (ls) (st) h else ex cal k_R_notes 19 (ls) (st) h := e_icge cal rfl
theorem u_R_notes_9 : ex cal k_R_notes 9 (aQ r :: ls) (st) h = ex cal k_R_notes 10 (aQ r :: ls) (aQ r :: st) h := ex_st cal (s := s_ald 0 10) rfl rfl
theorem u_R_notes_10 : ex cal k_R_notes 10 (ls) (aQ (some a) :: st) h = gO h a 10 (ex cal k_R_notes 13 (ls) (gf h a 27 :: st) h) := e_gf cal rfl
theorem u_R_notes_13 : ex cal k_R_notes 13 (aQ r :: ls) (st) h = ex cal k_R_notes 14 (aQ r :: ls) (aQ r :: st) h := ex_st cal (s := s_ald 0 14) rfl rfl
theorem u_R_notes_14 : ex cal k_R_notes 14 (ls) (aQ (some a) :: st) h = gO h a 10 (ex cal k_R_notes 17 (ls) (gf h a 28 :: st) h) := e_gf cal rfl
theorem u_R_notes_17 : ex cal k_R_notes 17 (x0 :: aI v :: ls) (st) h = ex cal k_R_notes 18 (x0 :: aI v :: ls) (aI v :: st) h := ex_st cal (s := s_ild 1 18) rfl rfl
theorem u_R_notes_18 (h3 : 3 ≤ a) : ex cal k_R_notes 18 (ls) (aI v :: aI i :: aQ (some a) :: st) h = gA h a i (ex cal k_R_notes 19 (ls) (st) (sa h a (upf (ai h a) (wr i) v))) := e_ias cal rfl h3
theorem u_R_notes_19 : ex cal k_R_notes 19 (aQ r :: ls) (st) h = ex cal k_R_notes 20 (aQ r :: ls) (aQ r :: st) h := ex_st cal (s := s_ald 0 20) rfl rfl
theorem u_R_notes_20 (hx : aNl y = true) : ex cal k_R_notes 20 (ls) (y :: st) h = ex cal k_R_notes 21 (ls) (y :: y :: st) h := e_dup rfl hx
theorem u_R_notes_21 : ex cal k_R_notes 21 (ls) (aQ (some a) :: st) h = gO h a 10 (ex cal k_R_notes 24 (ls) (gf h a 28 :: st) h) := e_gf cal rfl
theorem u_R_notes_24 : ex cal k_R_notes 24 (ls) (st) h = ex cal k_R_notes 25 (ls) (aI 1 :: st) h := e_push cal rfl
theorem u_R_notes_25 : ex cal k_R_notes 25 (ls) (aI j :: aI i :: st) h = ex cal k_R_notes 26 (ls) (aI (i + j) :: st) h := e_bin cal rfl
theorem u_R_notes_26 : ex cal k_R_notes 26 (ls) (aI v :: aQ (some a) :: st) h = gO h a 10 (ex cal k_R_notes 29 (ls) (st) (pf h a 28 (aI v))) := e_pf1 rfl rfl
theorem u_R_notes_29 : ex cal k_R_notes 29 (ls) ([]) h = some (none, h) := e_ret0 cal rfl
theorem n_R_notes (d : Nat) : ev (d + 1) M_R_notes [aQ (some a), aI z0] h = ex (ev d) k_R_notes 0 [aQ (some a), aI z0] [] h := rfl
theorem u_R_plainWrite_0 : ex cal k_R_plainWrite 0 (aQ r :: ls) (st) h = ex cal k_R_plainWrite 1 (aQ r :: ls) (aQ r :: st) h := ex_st cal (s := s_ald 0 1) rfl rfl
theorem u_R_plainWrite_1 : ex cal k_R_plainWrite 1 (ls) (st) h = ex cal k_R_plainWrite 3 (ls) (aI 10 :: st) h := e_push cal rfl
theorem u_R_plainWrite_3 (hl : Nat.ble st.length 4 = true) : ex cal k_R_plainWrite 3 (ls) (aI z0 :: aQ (some a) :: st) h = gO h a 10 (kk cal k_R_plainWrite 6 ls st (cal M_R_notes [aQ (some a), aI z0] h)) := e_callV cal (ci := 10) (as := [aI z0]) rfl (by decide) rfl (Nat.le_of_ble_eq_true hl)
theorem u_R_plainWrite_6 : ex cal k_R_plainWrite 6 (x0 :: x1 :: aI v :: ls) (st) h = ex cal k_R_plainWrite 7 (x0 :: x1 :: aI v :: ls) (aI v :: st) h := ex_st cal (s := s_ild 2 7) rfl rfl
theorem u_R_plainWrite_7 : ex cal k_R_plainWrite 7 (aQ r :: ls) (st) h = ex cal k_R_plainWrite 8 (aQ r :: ls) (aQ r :: st) h := ex_st cal (s := s_ald 0 8) rfl rfl
theorem u_R_plainWrite_8 : ex cal k_R_plainWrite 8 (ls) (aQ (some a) :: st) h = gO h a 10 (ex cal k_R_plainWrite 11 (ls) (gf h a 7 :: st) h) := e_gf cal rfl
theorem u_R_plainWrite_11 : ex cal k_R_plainWrite 11 (x0 :: aI v :: ls) (st) h = ex cal k_R_plainWrite 12 (x0 :: aI v :: ls) (aI v :: st) h := ex_st cal (s := s_ild 1 12) rfl rfl
theorem u_R_plainWrite_12 : ex cal k_R_plainWrite 12 (ls) (aI i :: aQ (some a) :: st) h = gA h a i (ex cal k_R_plainWrite 13 (ls) (aI (ai h a (wr i)) :: st) h) := e_ia cal rfl
theorem u_R_plainWrite_13 : ex cal k_R_plainWrite 13 (ls) (aI j :: aI i :: st) h = ex cal k_R_plainWrite 14 (ls) (aI (i + j) :: st) h := e_bin cal rfl
theorem u_R_plainWrite_14 : ex cal k_R_plainWrite 14 (ls) ([aI v]) h = some (some (aI v), h) := e_ret1 cal rfl
theorem n_R_plainWrite (d : Nat) : ev (d + 1) M_R_plainWrite [aQ (some a), aI z0, aI z1] h = ex (ev d) k_R_plainWrite 0 [aQ (some a), aI z0, aI z1] [] h := rfl
theorem u_R_formedWrite_0 : ex cal k_R_formedWrite 0 (aQ r :: ls) (st) h = ex cal k_R_formedWrite 1 (aQ r :: ls) (aQ r :: st) h := ex_st cal (s := s_ald 0 1) rfl rfl
theorem u_R_formedWrite_1 : ex cal k_R_formedWrite 1 (ls) (st) h = ex cal k_R_formedWrite 3 (ls) (aI 20 :: st) h := e_push cal rfl
theorem u_R_formedWrite_3 (hl : Nat.ble st.length 4 = true) : ex cal k_R_formedWrite 3 (ls) (aI z0 :: aQ (some a) :: st) h = gO h a 10 (kk cal k_R_formedWrite 6 ls st (cal M_R_notes [aQ (some a), aI z0] h)) := e_callV cal (ci := 10) (as := [aI z0]) rfl (by decide) rfl (Nat.le_of_ble_eq_true hl)
theorem u_R_formedWrite_6 : ex cal k_R_formedWrite 6 (aQ r :: ls) (st) h = ex cal k_R_formedWrite 7 (aQ r :: ls) (aQ r :: st) h := ex_st cal (s := s_ald 0 7) rfl rfl
theorem u_R_formedWrite_7 : ex cal k_R_formedWrite 7 (x0 :: aI v :: ls) (st) h = ex cal k_R_formedWrite 8 (x0 :: aI v :: ls) (aI v :: st) h := ex_st cal (s := s_ild 1 8) rfl rfl
theorem u_R_formedWrite_8 : ex cal k_R_formedWrite 8 (x0 :: x1 :: aI v :: ls) (st) h = ex cal k_R_formedWrite 9 (x0 :: x1 :: aI v :: ls) (aI v :: st) h := ex_st cal (s := s_ild 2 9) rfl rfl
theorem u_R_formedWrite_9 (hl : Nat.ble st.length 4 = true) : ex cal k_R_formedWrite 9 (ls) (aI z1 :: aI z0 :: aQ (some a) :: st) h = gO h a 10 (kk cal k_R_formedWrite 12 ls st (cal M_R_plainWrite [aQ (some a), aI z0, aI z1] h)) := e_callV cal (ci := 10) (as := [aI z1, aI z0]) rfl (by decide) rfl (Nat.le_of_ble_eq_true hl)
theorem u_R_formedWrite_12 : ex cal k_R_formedWrite 12 (x0 :: aI v :: ls) (st) h = ex cal k_R_formedWrite 13 (x0 :: aI v :: ls) (aI v :: st) h := ex_st cal (s := s_ild 1 13) rfl rfl
theorem u_R_formedWrite_13 : ex cal k_R_formedWrite 13 (ls) (aI j :: aI i :: st) h = ex cal k_R_formedWrite 14 (ls) (aI (i + j) :: st) h := e_bin cal rfl
theorem u_R_formedWrite_14 : ex cal k_R_formedWrite 14 (ls) ([aI v]) h = some (some (aI v), h) := e_ret1 cal rfl
theorem n_R_formedWrite (d : Nat) : ev (d + 1) M_R_formedWrite [aQ (some a), aI z0, aI z1] h = ex (ev d) k_R_formedWrite 0 [aQ (some a), aI z0, aI z1] [] h := rfl
theorem u_R_write_0 : ex cal k_R_write 0 (aQ r :: ls) (st) h = ex cal k_R_write 1 (aQ r :: ls) (aQ r :: st) h := ex_st cal (s := s_ald 0 1) rfl rfl
theorem u_R_write_1 : ex cal k_R_write 1 (ls) (aQ (some a) :: st) h = gO h a 10 (ex cal k_R_write 4 (ls) (gf h a 5 :: st) h) := e_gf cal rfl
theorem u_R_write_4 : ex cal k_R_write 4 (x0 :: aI v :: ls) (st) h = ex cal k_R_write 5 (x0 :: aI v :: ls) (aI v :: st) h := ex_st cal (s := s_ild 1 5) rfl rfl
theorem u_R_write_5 : ex cal k_R_write 5 (ls) (aI i :: aQ (some a) :: st) h = gA h a i (ex cal k_R_write 6 (ls) (aI (ai h a (wr i)) :: st) h) := e_ia cal rfl
theorem u_R_write_6 : ex cal k_R_write 6 (ls) (st) h = ex cal k_R_write 7 (ls) (aI 5 :: st) h := e_push cal rfl
theorem u_R_write_7 : ex cal k_R_write 7 (ls) (aI j :: aI i :: st) h = if wr i = wr j then ex cal k_R_write 10 (ls) (st) h else ex cal k_R_write 30 (ls) (st) h := e_icne cal rfl
theorem u_R_write_10 : ex cal k_R_write 10 (aQ r :: ls) (st) h = ex cal k_R_write 11 (aQ r :: ls) (aQ r :: st) h := ex_st cal (s := s_ald 0 11) rfl rfl
theorem u_R_write_11 : ex cal k_R_write 11 (ls) (st) h = ex cal k_R_write 13 (ls) (aI 61 :: st) h := e_push cal rfl
theorem u_R_write_13 (hl : Nat.ble st.length 4 = true) : ex cal k_R_write 13 (ls) (aI z0 :: aQ (some a) :: st) h = gO h a 10 (kk cal k_R_write 16 ls st (cal M_R_notes [aQ (some a), aI z0] h)) := e_callV cal (ci := 10) (as := [aI z0]) rfl (by decide) rfl (Nat.le_of_ble_eq_true hl)
theorem u_R_write_16 : ex cal k_R_write 16 (aQ r :: ls) (st) h = ex cal k_R_write 17 (aQ r :: ls) (aQ r :: st) h := ex_st cal (s := s_ald 0 17) rfl rfl
theorem u_R_write_17 : ex cal k_R_write 17 (x0 :: aI v :: ls) (st) h = ex cal k_R_write 18 (x0 :: aI v :: ls) (aI v :: st) h := ex_st cal (s := s_ild 1 18) rfl rfl
theorem u_R_write_18 : ex cal k_R_write 18 (x0 :: x1 :: aI v :: ls) (st) h = ex cal k_R_write 19 (x0 :: x1 :: aI v :: ls) (aI v :: st) h := ex_st cal (s := s_ild 2 19) rfl rfl
theorem u_R_write_19 : ex cal k_R_write 19 (aQ r :: ls) (st) h = ex cal k_R_write 20 (aQ r :: ls) (aQ r :: st) h := ex_st cal (s := s_ald 0 20) rfl rfl
theorem u_R_write_20 : ex cal k_R_write 20 (ls) (aQ (some a) :: st) h = gO h a 10 (ex cal k_R_write 23 (ls) (gf h a 7 :: st) h) := e_gf cal rfl
theorem u_R_write_23 : ex cal k_R_write 23 (x0 :: aI v :: ls) (st) h = ex cal k_R_write 24 (x0 :: aI v :: ls) (aI v :: st) h := ex_st cal (s := s_ild 1 24) rfl rfl
theorem u_R_write_24 : ex cal k_R_write 24 (ls) (aI i :: aQ (some a) :: st) h = gA h a i (ex cal k_R_write 25 (ls) (aI (ai h a (wr i)) :: st) h) := e_ia cal rfl
theorem u_R_write_25 : ex cal k_R_write 25 (ls) (aI j :: aI i :: st) h = ex cal k_R_write 26 (ls) (aI (i - j) :: st) h := e_bin cal rfl
theorem u_R_write_26 (hl : Nat.ble st.length 4 = true) : ex cal k_R_write 26 (ls) (aI z1 :: aI z0 :: aQ (some a) :: st) h = gO h a 10 (kk cal k_R_write 29 ls st (cal M_R_formedWrite [aQ (some a), aI z0, aI z1] h)) := e_callV cal (ci := 10) (as := [aI z1, aI z0]) rfl (by decide) rfl (Nat.le_of_ble_eq_true hl)
theorem u_R_write_29 : ex cal k_R_write 29 (ls) ([aI v]) h = some (some (aI v), h) := e_ret1 cal rfl
theorem u_R_write_30 : ex cal k_R_write 30 (aQ r :: ls) (st) h = ex cal k_R_write 31 (aQ r :: ls) (aQ r :: st) h := ex_st cal (s := s_ald 0 31) rfl rfl
theorem u_R_write_31 : ex cal k_R_write 31 (ls) (aQ (some a) :: st) h = gO h a 10 (ex cal k_R_write 34 (ls) (gf h a 5 :: st) h) := e_gf cal rfl
theorem u_R_write_34 : ex cal k_R_write 34 (x0 :: aI v :: ls) (st) h = ex cal k_R_write 35 (x0 :: aI v :: ls) (aI v :: st) h := ex_st cal (s := s_ild 1 35) rfl rfl
theorem u_R_write_35 : ex cal k_R_write 35 (ls) (aI i :: aQ (some a) :: st) h = gA h a i (ex cal k_R_write 36 (ls) (aI (ai h a (wr i)) :: st) h) := e_ia cal rfl
theorem u_R_write_36 : ex cal k_R_write 36 (ls) (st) h = ex cal k_R_write 37 (ls) (aI 1 :: st) h := e_push cal rfl
theorem u_R_write_37 : ex cal k_R_write 37 (ls) (aI j :: aI i :: st) h = if wr i = wr j then ex cal k_R_write 40 (ls) (st) h else ex cal k_R_write 49 (ls) (st) h := e_icne cal rfl
theorem u_R_write_40 : ex cal k_R_write 40 (aQ r :: ls) (st) h = ex cal k_R_write 41 (aQ r :: ls) (aQ r :: st) h := ex_st cal (s := s_ald 0 41) rfl rfl
theorem u_R_write_41 : ex cal k_R_write 41 (x0 :: aI v :: ls) (st) h = ex cal k_R_write 42 (x0 :: aI v :: ls) (aI v :: st) h := ex_st cal (s := s_ild 1 42) rfl rfl
theorem u_R_write_42 : ex cal k_R_write 42 (x0 :: x1 :: aI v :: ls) (st) h = ex cal k_R_write 43 (x0 :: x1 :: aI v :: ls) (aI v :: st) h := ex_st cal (s := s_ild 2 43) rfl rfl
theorem u_R_write_43 (hl : Nat.ble st.length 4 = true) : ex cal k_R_write 43 (ls) (aI z1 :: aI z0 :: aQ (some a) :: st) h = gO h a 10 (kk cal k_R_write 46 ls st (cal M_R_formedWrite [aQ (some a), aI z0, aI z1] h)) := e_callV cal (ci := 10) (as := [aI z1, aI z0]) rfl (by decide) rfl (Nat.le_of_ble_eq_true hl)
theorem u_R_write_46 : ex cal k_R_write 46 (ls) (st) h = ex cal k_R_write 55 (ls) (st) h := ex_st cal (s := s_go 55) rfl rfl
theorem u_R_write_49 : ex cal k_R_write 49 (aQ r :: ls) (st) h = ex cal k_R_write 50 (aQ r :: ls) (aQ r :: st) h := ex_st cal (s := s_ald 0 50) rfl rfl
theorem u_R_write_50 : ex cal k_R_write 50 (x0 :: aI v :: ls) (st) h = ex cal k_R_write 51 (x0 :: aI v :: ls) (aI v :: st) h := ex_st cal (s := s_ild 1 51) rfl rfl
theorem u_R_write_51 : ex cal k_R_write 51 (x0 :: x1 :: aI v :: ls) (st) h = ex cal k_R_write 52 (x0 :: x1 :: aI v :: ls) (aI v :: st) h := ex_st cal (s := s_ild 2 52) rfl rfl
theorem u_R_write_52 (hl : Nat.ble st.length 4 = true) : ex cal k_R_write 52 (ls) (aI z1 :: aI z0 :: aQ (some a) :: st) h = gO h a 10 (kk cal k_R_write 55 ls st (cal M_R_plainWrite [aQ (some a), aI z0, aI z1] h)) := e_callV cal (ci := 10) (as := [aI z1, aI z0]) rfl (by decide) rfl (Nat.le_of_ble_eq_true hl)
theorem u_R_write_55 : ex cal k_R_write 55 (ls) ([aI v]) h = some (some (aI v), h) := e_ret1 cal rfl
theorem n_R_write (d : Nat) : ev (d + 1) M_R_write [aQ (some a), aI z0, aI z1] h = ex (ev d) k_R_write 0 [aQ (some a), aI z0, aI z1] [] h := rfl
theorem u_R_plainMove_0 : ex cal k_R_plainMove 0 (aQ r :: ls) (st) h = ex cal k_R_plainMove 1 (aQ r :: ls) (aQ r :: st) h := ex_st cal (s := s_ald 0 1) rfl rfl
theorem u_R_plainMove_1 : ex cal k_R_plainMove 1 (ls) (st) h = ex cal k_R_plainMove 3 (ls) (aI 11 :: st) h := e_push cal rfl
theorem u_R_plainMove_3 (hl : Nat.ble st.length 4 = true) : ex cal k_R_plainMove 3 (ls) (aI z0 :: aQ (some a) :: st) h = gO h a 10 (kk cal k_R_plainMove 6 ls st (cal M_R_notes [aQ (some a), aI z0] h)) := e_callV cal (ci := 10) (as := [aI z0]) rfl (by decide) rfl (Nat.le_of_ble_eq_true hl)
theorem u_R_plainMove_6 : ex cal k_R_plainMove 6 (aQ r :: ls) (st) h = ex cal k_R_plainMove 7 (aQ r :: ls) (aQ r :: st) h := ex_st cal (s := s_ald 0 7) rfl rfl
theorem u_R_plainMove_7 : ex cal k_R_plainMove 7 (x0 :: aI v :: ls) (st) h = ex cal k_R_plainMove 8 (x0 :: aI v :: ls) (aI v :: st) h := ex_st cal (s := s_ild 1 8) rfl rfl
theorem u_R_plainMove_8 : ex cal k_R_plainMove 8 (x0 :: x1 :: aI v :: ls) (st) h = ex cal k_R_plainMove 9 (x0 :: x1 :: aI v :: ls) (aI v :: st) h := ex_st cal (s := s_ild 2 9) rfl rfl
theorem u_R_plainMove_9 (hl : Nat.ble st.length 4 = true) : ex cal k_R_plainMove 9 (ls) (aI z1 :: aI z0 :: aQ (some a) :: st) h = gO h a 10 (kk cal k_R_plainMove 12 ls st (cal M_R_write [aQ (some a), aI z0, aI z1] h)) := e_callV cal (ci := 10) (as := [aI z1, aI z0]) rfl (by decide) rfl (Nat.le_of_ble_eq_true hl)
theorem u_R_plainMove_12 : ex cal k_R_plainMove 12 (ls) (st) h = ex cal k_R_plainMove 13 (ls) (aI 2 :: st) h := e_push cal rfl
theorem u_R_plainMove_13 : ex cal k_R_plainMove 13 (ls) (aI j :: aI i :: st) h = ex cal k_R_plainMove 14 (ls) (aI (i * j) :: st) h := e_bin cal rfl
theorem u_R_plainMove_14 : ex cal k_R_plainMove 14 (ls) ([aI v]) h = some (some (aI v), h) := e_ret1 cal rfl
theorem n_R_plainMove (d : Nat) : ev (d + 1) M_R_plainMove [aQ (some a), aI z0, aI z1] h = ex (ev d) k_R_plainMove 0 [aQ (some a), aI z0, aI z1] [] h := rfl
theorem u_R_move_0 : ex cal k_R_move 0 (aQ r :: ls) (st) h = ex cal k_R_move 1 (aQ r :: ls) (aQ r :: st) h := ex_st cal (s := s_ald 0 1) rfl rfl
theorem u_R_move_1 : ex cal k_R_move 1 (ls) (aQ (some a) :: st) h = gO h a 10 (ex cal k_R_move 4 (ls) (gf h a 5 :: st) h) := e_gf cal rfl
theorem u_R_move_4 : ex cal k_R_move 4 (x0 :: aI v :: ls) (st) h = ex cal k_R_move 5 (x0 :: aI v :: ls) (aI v :: st) h := ex_st cal (s := s_ild 1 5) rfl rfl
theorem u_R_move_5 : ex cal k_R_move 5 (ls) (aI i :: aQ (some a) :: st) h = gA h a i (ex cal k_R_move 6 (ls) (aI (ai h a (wr i)) :: st) h) := e_ia cal rfl
theorem u_R_move_6 : ex cal k_R_move 6 (ls) (st) h = ex cal k_R_move 7 (ls) (aI 5 :: st) h := e_push cal rfl
theorem u_R_move_7 : ex cal k_R_move 7 (ls) (aI j :: aI i :: st) h = if wr i = wr j then ex cal k_R_move 10 (ls) (st) h else ex cal k_R_move 25 (ls) (st) h := e_icne cal rfl
theorem u_R_move_10 : ex cal k_R_move 10 (aQ r :: ls) (st) h = ex cal k_R_move 11 (aQ r :: ls) (aQ r :: st) h := ex_st cal (s := s_ald 0 11) rfl rfl
theorem u_R_move_11 : ex cal k_R_move 11 (ls) (st) h = ex cal k_R_move 13 (ls) (aI 60 :: st) h := e_push cal rfl
theorem u_R_move_13 (hl : Nat.ble st.length 4 = true) : ex cal k_R_move 13 (ls) (aI z0 :: aQ (some a) :: st) h = gO h a 10 (kk cal k_R_move 16 ls st (cal M_R_notes [aQ (some a), aI z0] h)) := e_callV cal (ci := 10) (as := [aI z0]) rfl (by decide) rfl (Nat.le_of_ble_eq_true hl)
theorem u_R_move_16 : ex cal k_R_move 16 (aQ r :: ls) (st) h = ex cal k_R_move 17 (aQ r :: ls) (aQ r :: st) h := ex_st cal (s := s_ald 0 17) rfl rfl
theorem u_R_move_17 : ex cal k_R_move 17 (x0 :: aI v :: ls) (st) h = ex cal k_R_move 18 (x0 :: aI v :: ls) (aI v :: st) h := ex_st cal (s := s_ild 1 18) rfl rfl
theorem u_R_move_18 : ex cal k_R_move 18 (x0 :: x1 :: aI v :: ls) (st) h = ex cal k_R_move 19 (x0 :: x1 :: aI v :: ls) (aI v :: st) h := ex_st cal (s := s_ild 2 19) rfl rfl
theorem u_R_move_19 (hl : Nat.ble st.length 4 = true) : ex cal k_R_move 19 (ls) (aI z1 :: aI z0 :: aQ (some a) :: st) h = gO h a 10 (kk cal k_R_move 22 ls st (cal M_R_plainMove [aQ (some a), aI z0, aI z1] h)) := e_callV cal (ci := 10) (as := [aI z1, aI z0]) rfl (by decide) rfl (Nat.le_of_ble_eq_true hl)
theorem u_R_move_22 : ex cal k_R_move 22 (x0 :: aI v :: ls) (st) h = ex cal k_R_move 23 (x0 :: aI v :: ls) (aI v :: st) h := ex_st cal (s := s_ild 1 23) rfl rfl
theorem u_R_move_23 : ex cal k_R_move 23 (ls) (aI j :: aI i :: st) h = ex cal k_R_move 24 (ls) (aI (i + j) :: st) h := e_bin cal rfl
theorem u_R_move_24 : ex cal k_R_move 24 (ls) ([aI v]) h = some (some (aI v), h) := e_ret1 cal rfl
theorem u_R_move_25 : ex cal k_R_move 25 (aQ r :: ls) (st) h = ex cal k_R_move 26 (aQ r :: ls) (aQ r :: st) h := ex_st cal (s := s_ald 0 26) rfl rfl
theorem u_R_move_26 : ex cal k_R_move 26 (ls) (aQ (some a) :: st) h = gO h a 10 (ex cal k_R_move 29 (ls) (gf h a 5 :: st) h) := e_gf cal rfl
theorem u_R_move_29 : ex cal k_R_move 29 (x0 :: aI v :: ls) (st) h = ex cal k_R_move 30 (x0 :: aI v :: ls) (aI v :: st) h := ex_st cal (s := s_ild 1 30) rfl rfl
theorem u_R_move_30 : ex cal k_R_move 30 (ls) (aI i :: aQ (some a) :: st) h = gA h a i (ex cal k_R_move 31 (ls) (aI (ai h a (wr i)) :: st) h) := e_ia cal rfl
theorem u_R_move_31 : ex cal k_R_move 31 (ls) (st) h = ex cal k_R_move 32 (ls) (aI 3 :: st) h := e_push cal rfl
theorem u_R_move_32 : ex cal k_R_move 32 (ls) (aI j :: aI i :: st) h = if wr i = wr j then ex cal k_R_move 42 (ls) (st) h else ex cal k_R_move 35 (ls) (st) h := e_iceq cal rfl
theorem u_R_move_35 : ex cal k_R_move 35 (aQ r :: ls) (st) h = ex cal k_R_move 36 (aQ r :: ls) (aQ r :: st) h := ex_st cal (s := s_ald 0 36) rfl rfl
theorem u_R_move_36 : ex cal k_R_move 36 (x0 :: aI v :: ls) (st) h = ex cal k_R_move 37 (x0 :: aI v :: ls) (aI v :: st) h := ex_st cal (s := s_ild 1 37) rfl rfl
theorem u_R_move_37 : ex cal k_R_move 37 (x0 :: x1 :: aI v :: ls) (st) h = ex cal k_R_move 38 (x0 :: x1 :: aI v :: ls) (aI v :: st) h := ex_st cal (s := s_ild 2 38) rfl rfl
theorem u_R_move_38 (hl : Nat.ble st.length 4 = true) : ex cal k_R_move 38 (ls) (aI z1 :: aI z0 :: aQ (some a) :: st) h = gO h a 10 (kk cal k_R_move 41 ls st (cal M_R_plainMove [aQ (some a), aI z0, aI z1] h)) := e_callV cal (ci := 10) (as := [aI z1, aI z0]) rfl (by decide) rfl (Nat.le_of_ble_eq_true hl)
theorem u_R_move_41 : ex cal k_R_move 41 (ls) ([aI v]) h = some (some (aI v), h) := e_ret1 cal rfl
theorem u_R_move_42 : ex cal k_R_move 42 (aQ r :: ls) (st) h = ex cal k_R_move 43 (aQ r :: ls) (aQ r :: st) h := ex_st cal (s := s_ald 0 43) rfl rfl
theorem u_R_move_43 : ex cal k_R_move 43 (ls) (st) h = ex cal k_R_move 45 (ls) (aI 40 :: st) h := e_push cal rfl
theorem u_R_move_45 (hl : Nat.ble st.length 4 = true) : ex cal k_R_move 45 (ls) (aI z0 :: aQ (some a) :: st) h = gO h a 10 (kk cal k_R_move 48 ls st (cal M_R_notes [aQ (some a), aI z0] h)) := e_callV cal (ci := 10) (as := [aI z0]) rfl (by decide) rfl (Nat.le_of_ble_eq_true hl)
theorem u_R_move_48 : ex cal k_R_move 48 (aQ r :: ls) (st) h = ex cal k_R_move 49 (aQ r :: ls) (aQ r :: st) h := ex_st cal (s := s_ald 0 49) rfl rfl
theorem u_R_move_49 : ex cal k_R_move 49 (x0 :: aI v :: ls) (st) h = ex cal k_R_move 50 (x0 :: aI v :: ls) (aI v :: st) h := ex_st cal (s := s_ild 1 50) rfl rfl
theorem u_R_move_50 : ex cal k_R_move 50 (x0 :: x1 :: aI v :: ls) (st) h = ex cal k_R_move 51 (x0 :: x1 :: aI v :: ls) (aI v :: st) h := ex_st cal (s := s_ild 2 51) rfl rfl
theorem u_R_move_51 (hl : Nat.ble st.length 4 = true) : ex cal k_R_move 51 (ls) (aI z1 :: aI z0 :: aQ (some a) :: st) h = gO h a 10 (kk cal k_R_move 54 ls st (cal M_R_plainMove [aQ (some a), aI z0, aI z1] h)) := e_callV cal (ci := 10) (as := [aI z1, aI z0]) rfl (by decide) rfl (Nat.le_of_ble_eq_true hl)
theorem u_R_move_54 (hx : aNl x2 = true) : ex cal k_R_move 54 (x0 :: x1 :: x2 :: y :: ls) (aI v :: st) h = ex cal k_R_move 55 (x0 :: x1 :: x2 :: aI v :: ls) (st) h := e_ist (ls := x0 :: x1 :: x2 :: y :: ls) (k := 3) rfl hx (by simp only [List.length_cons]; omega)
theorem u_R_move_55 : ex cal k_R_move 55 (x0 :: x1 :: x2 :: aI v :: ls) (st) h = ex cal k_R_move 56 (x0 :: x1 :: x2 :: aI v :: ls) (aI v :: st) h := ex_st cal (s := s_ild 3 56) rfl rfl
theorem u_R_move_56 : ex cal k_R_move 56 (aQ r :: ls) (st) h = ex cal k_R_move 57 (aQ r :: ls) (aQ r :: st) h := ex_st cal (s := s_ald 0 57) rfl rfl
theorem u_R_move_57 : ex cal k_R_move 57 (x0 :: aI v :: ls) (st) h = ex cal k_R_move 58 (x0 :: aI v :: ls) (aI v :: st) h := ex_st cal (s := s_ild 1 58) rfl rfl
theorem u_R_move_58 : ex cal k_R_move 58 (x0 :: x1 :: aI v :: ls) (st) h = ex cal k_R_move 59 (x0 :: x1 :: aI v :: ls) (aI v :: st) h := ex_st cal (s := s_ild 2 59) rfl rfl
theorem u_R_move_59 (hl : Nat.ble st.length 4 = true) : ex cal k_R_move 59 (ls) (aI z1 :: aI z0 :: aQ (some a) :: st) h = gO h a 10 (kk cal k_R_move 62 ls st (cal M_R_write [aQ (some a), aI z0, aI z1] h)) := e_callV cal (ci := 10) (as := [aI z1, aI z0]) rfl (by decide) rfl (Nat.le_of_ble_eq_true hl)
theorem u_R_move_62 : ex cal k_R_move 62 (ls) (aI j :: aI i :: st) h = ex cal k_R_move 63 (ls) (aI (i - j) :: st) h := e_bin cal rfl
theorem u_R_move_63 : ex cal k_R_move 63 (ls) ([aI v]) h = some (some (aI v), h) := e_ret1 cal rfl
theorem n_R_move (d : Nat) : ev (d + 1) M_R_move [aQ (some a), aI z0, aI z1] h = ex (ev d) k_R_move 0 [aQ (some a), aI z0, aI z1, aU] [] h := rfl
theorem u_R_plainKnow_0 : ex cal k_R_plainKnow 0 (aQ r :: ls) (st) h = ex cal k_R_plainKnow 1 (aQ r :: ls) (aQ r :: st) h := ex_st cal (s := s_ald 0 1) rfl rfl
theorem u_R_plainKnow_1 : ex cal k_R_plainKnow 1 (ls) (st) h = ex cal k_R_plainKnow 3 (ls) (aI 12 :: st) h := e_push cal rfl
theorem u_R_plainKnow_3 (hl : Nat.ble st.length 4 = true) : ex cal k_R_plainKnow 3 (ls) (aI z0 :: aQ (some a) :: st) h = gO h a 10 (kk cal k_R_plainKnow 6 ls st (cal M_R_notes [aQ (some a), aI z0] h)) := e_callV cal (ci := 10) (as := [aI z0]) rfl (by decide) rfl (Nat.le_of_ble_eq_true hl)
theorem u_R_plainKnow_6 : ex cal k_R_plainKnow 6 (x0 :: x1 :: aI v :: ls) (st) h = ex cal k_R_plainKnow 7 (x0 :: x1 :: aI v :: ls) (aI v :: st) h := ex_st cal (s := s_ild 2 7) rfl rfl
theorem u_R_plainKnow_7 : ex cal k_R_plainKnow 7 (aQ r :: ls) (st) h = ex cal k_R_plainKnow 8 (aQ r :: ls) (aQ r :: st) h := ex_st cal (s := s_ald 0 8) rfl rfl
theorem u_R_plainKnow_8 : ex cal k_R_plainKnow 8 (ls) (aQ (some a) :: st) h = gO h a 10 (ex cal k_R_plainKnow 11 (ls) (gf h a 9 :: st) h) := e_gf cal rfl
theorem u_R_plainKnow_11 : ex cal k_R_plainKnow 11 (x0 :: aI v :: ls) (st) h = ex cal k_R_plainKnow 12 (x0 :: aI v :: ls) (aI v :: st) h := ex_st cal (s := s_ild 1 12) rfl rfl
theorem u_R_plainKnow_12 : ex cal k_R_plainKnow 12 (ls) (aI i :: aQ (some a) :: st) h = gA h a i (ex cal k_R_plainKnow 13 (ls) (aI (ai h a (wr i)) :: st) h) := e_ia cal rfl
theorem u_R_plainKnow_13 : ex cal k_R_plainKnow 13 (ls) (aI j :: aI i :: st) h = ex cal k_R_plainKnow 14 (ls) (aI (i - j) :: st) h := e_bin cal rfl
theorem u_R_plainKnow_14 : ex cal k_R_plainKnow 14 (ls) ([aI v]) h = some (some (aI v), h) := e_ret1 cal rfl
theorem n_R_plainKnow (d : Nat) : ev (d + 1) M_R_plainKnow [aQ (some a), aI z0, aI z1] h = ex (ev d) k_R_plainKnow 0 [aQ (some a), aI z0, aI z1] [] h := rfl
theorem u_R_know_0 : ex cal k_R_know 0 (aQ r :: ls) (st) h = ex cal k_R_know 1 (aQ r :: ls) (aQ r :: st) h := ex_st cal (s := s_ald 0 1) rfl rfl
theorem u_R_know_1 : ex cal k_R_know 1 (ls) (aQ (some a) :: st) h = gO h a 10 (ex cal k_R_know 4 (ls) (gf h a 5 :: st) h) := e_gf cal rfl
theorem u_R_know_4 : ex cal k_R_know 4 (x0 :: aI v :: ls) (st) h = ex cal k_R_know 5 (x0 :: aI v :: ls) (aI v :: st) h := ex_st cal (s := s_ild 1 5) rfl rfl
theorem u_R_know_5 : ex cal k_R_know 5 (ls) (aI i :: aQ (some a) :: st) h = gA h a i (ex cal k_R_know 6 (ls) (aI (ai h a (wr i)) :: st) h) := e_ia cal rfl
theorem u_R_know_6 : ex cal k_R_know 6 (ls) (st) h = ex cal k_R_know 7 (ls) (aI 2 :: st) h := e_push cal rfl
theorem u_R_know_7 : ex cal k_R_know 7 (ls) (aI j :: aI i :: st) h = if wr i = wr j then ex cal k_R_know 17 (ls) (st) h else ex cal k_R_know 10 (ls) (st) h := e_iceq cal rfl
theorem u_R_know_10 : ex cal k_R_know 10 (aQ r :: ls) (st) h = ex cal k_R_know 11 (aQ r :: ls) (aQ r :: st) h := ex_st cal (s := s_ald 0 11) rfl rfl
theorem u_R_know_11 : ex cal k_R_know 11 (x0 :: aI v :: ls) (st) h = ex cal k_R_know 12 (x0 :: aI v :: ls) (aI v :: st) h := ex_st cal (s := s_ild 1 12) rfl rfl
theorem u_R_know_12 : ex cal k_R_know 12 (x0 :: x1 :: aI v :: ls) (st) h = ex cal k_R_know 13 (x0 :: x1 :: aI v :: ls) (aI v :: st) h := ex_st cal (s := s_ild 2 13) rfl rfl
theorem u_R_know_13 (hl : Nat.ble st.length 4 = true) : ex cal k_R_know 13 (ls) (aI z1 :: aI z0 :: aQ (some a) :: st) h = gO h a 10 (kk cal k_R_know 16 ls st (cal M_R_plainKnow [aQ (some a), aI z0, aI z1] h)) := e_callV cal (ci := 10) (as := [aI z1, aI z0]) rfl (by decide) rfl (Nat.le_of_ble_eq_true hl)
theorem u_R_know_16 : ex cal k_R_know 16 (ls) ([aI v]) h = some (some (aI v), h) := e_ret1 cal rfl
theorem u_R_know_17 : ex cal k_R_know 17 (aQ r :: ls) (st) h = ex cal k_R_know 18 (aQ r :: ls) (aQ r :: st) h := ex_st cal (s := s_ald 0 18) rfl rfl
theorem u_R_know_18 : ex cal k_R_know 18 (ls) (st) h = ex cal k_R_know 20 (ls) (aI 30 :: st) h := e_push cal rfl
theorem u_R_know_20 (hl : Nat.ble st.length 4 = true) : ex cal k_R_know 20 (ls) (aI z0 :: aQ (some a) :: st) h = gO h a 10 (kk cal k_R_know 23 ls st (cal M_R_notes [aQ (some a), aI z0] h)) := e_callV cal (ci := 10) (as := [aI z0]) rfl (by decide) rfl (Nat.le_of_ble_eq_true hl)
theorem u_R_know_23 : ex cal k_R_know 23 (aQ r :: ls) (st) h = ex cal k_R_know 24 (aQ r :: ls) (aQ r :: st) h := ex_st cal (s := s_ald 0 24) rfl rfl
theorem u_R_know_24 : ex cal k_R_know 24 (x0 :: aI v :: ls) (st) h = ex cal k_R_know 25 (x0 :: aI v :: ls) (aI v :: st) h := ex_st cal (s := s_ild 1 25) rfl rfl
theorem u_R_know_25 : ex cal k_R_know 25 (x0 :: x1 :: aI v :: ls) (st) h = ex cal k_R_know 26 (x0 :: x1 :: aI v :: ls) (aI v :: st) h := ex_st cal (s := s_ild 2 26) rfl rfl
theorem u_R_know_26 (hl : Nat.ble st.length 4 = true) : ex cal k_R_know 26 (ls) (aI z1 :: aI z0 :: aQ (some a) :: st) h = gO h a 10 (kk cal k_R_know 29 ls st (cal M_R_plainKnow [aQ (some a), aI z0, aI z1] h)) := e_callV cal (ci := 10) (as := [aI z1, aI z0]) rfl (by decide) rfl (Nat.le_of_ble_eq_true hl)
theorem u_R_know_29 : ex cal k_R_know 29 (ls) (st) h = ex cal k_R_know 30 (ls) (aI 3 :: st) h := e_push cal rfl
theorem u_R_know_30 : ex cal k_R_know 30 (ls) (aI j :: aI i :: st) h = ex cal k_R_know 31 (ls) (aI (i * j) :: st) h := e_bin cal rfl
theorem u_R_know_31 : ex cal k_R_know 31 (ls) ([aI v]) h = some (some (aI v), h) := e_ret1 cal rfl
theorem n_R_know (d : Nat) : ev (d + 1) M_R_know [aQ (some a), aI z0, aI z1] h = ex (ev d) k_R_know 0 [aQ (some a), aI z0, aI z1] [] h := rfl
theorem u_R_plainFade_0 : ex cal k_R_plainFade 0 (aQ r :: ls) (st) h = ex cal k_R_plainFade 1 (aQ r :: ls) (aQ r :: st) h := ex_st cal (s := s_ald 0 1) rfl rfl
theorem u_R_plainFade_1 : ex cal k_R_plainFade 1 (ls) (st) h = ex cal k_R_plainFade 3 (ls) (aI 13 :: st) h := e_push cal rfl
theorem u_R_plainFade_3 (hl : Nat.ble st.length 4 = true) : ex cal k_R_plainFade 3 (ls) (aI z0 :: aQ (some a) :: st) h = gO h a 10 (kk cal k_R_plainFade 6 ls st (cal M_R_notes [aQ (some a), aI z0] h)) := e_callV cal (ci := 10) (as := [aI z0]) rfl (by decide) rfl (Nat.le_of_ble_eq_true hl)
theorem u_R_plainFade_6 : ex cal k_R_plainFade 6 (aQ r :: ls) (st) h = ex cal k_R_plainFade 7 (aQ r :: ls) (aQ r :: st) h := ex_st cal (s := s_ald 0 7) rfl rfl
theorem u_R_plainFade_7 : ex cal k_R_plainFade 7 (x0 :: aI v :: ls) (st) h = ex cal k_R_plainFade 8 (x0 :: aI v :: ls) (aI v :: st) h := ex_st cal (s := s_ild 1 8) rfl rfl
theorem u_R_plainFade_8 : ex cal k_R_plainFade 8 (x0 :: x1 :: aI v :: ls) (st) h = ex cal k_R_plainFade 9 (x0 :: x1 :: aI v :: ls) (aI v :: st) h := ex_st cal (s := s_ild 2 9) rfl rfl
theorem u_R_plainFade_9 (hl : Nat.ble st.length 4 = true) : ex cal k_R_plainFade 9 (ls) (aI z1 :: aI z0 :: aQ (some a) :: st) h = gO h a 10 (kk cal k_R_plainFade 12 ls st (cal M_R_move [aQ (some a), aI z0, aI z1] h)) := e_callV cal (ci := 10) (as := [aI z1, aI z0]) rfl (by decide) rfl (Nat.le_of_ble_eq_true hl)
theorem u_R_plainFade_12 (hx : aNl x2 = true) : ex cal k_R_plainFade 12 (x0 :: x1 :: x2 :: y :: ls) (aI v :: st) h = ex cal k_R_plainFade 13 (x0 :: x1 :: x2 :: aI v :: ls) (st) h := e_ist (ls := x0 :: x1 :: x2 :: y :: ls) (k := 3) rfl hx (by simp only [List.length_cons]; omega)
theorem u_R_plainFade_13 : ex cal k_R_plainFade 13 (x0 :: x1 :: x2 :: aI v :: ls) (st) h = ex cal k_R_plainFade 14 (x0 :: x1 :: x2 :: aI v :: ls) (aI v :: st) h := ex_st cal (s := s_ild 3 14) rfl rfl
theorem u_R_plainFade_14 : ex cal k_R_plainFade 14 (aQ r :: ls) (st) h = ex cal k_R_plainFade 15 (aQ r :: ls) (aQ r :: st) h := ex_st cal (s := s_ald 0 15) rfl rfl
theorem u_R_plainFade_15 : ex cal k_R_plainFade 15 (x0 :: aI v :: ls) (st) h = ex cal k_R_plainFade 16 (x0 :: aI v :: ls) (aI v :: st) h := ex_st cal (s := s_ild 1 16) rfl rfl
theorem u_R_plainFade_16 : ex cal k_R_plainFade 16 (x0 :: x1 :: aI v :: ls) (st) h = ex cal k_R_plainFade 17 (x0 :: x1 :: aI v :: ls) (aI v :: st) h := ex_st cal (s := s_ild 2 17) rfl rfl
theorem u_R_plainFade_17 (hl : Nat.ble st.length 4 = true) : ex cal k_R_plainFade 17 (ls) (aI z1 :: aI z0 :: aQ (some a) :: st) h = gO h a 10 (kk cal k_R_plainFade 20 ls st (cal M_R_know [aQ (some a), aI z0, aI z1] h)) := e_callV cal (ci := 10) (as := [aI z1, aI z0]) rfl (by decide) rfl (Nat.le_of_ble_eq_true hl)
theorem u_R_plainFade_20 : ex cal k_R_plainFade 20 (ls) (aI j :: aI i :: st) h = ex cal k_R_plainFade 21 (ls) (aI (wxor i j) :: st) h := e_bin cal rfl
theorem u_R_plainFade_21 : ex cal k_R_plainFade 21 (ls) ([aI v]) h = some (some (aI v), h) := e_ret1 cal rfl
theorem n_R_plainFade (d : Nat) : ev (d + 1) M_R_plainFade [aQ (some a), aI z0, aI z1] h = ex (ev d) k_R_plainFade 0 [aQ (some a), aI z0, aI z1, aU] [] h := rfl
theorem u_R_fade_0 : ex cal k_R_fade 0 (aQ r :: ls) (st) h = ex cal k_R_fade 1 (aQ r :: ls) (aQ r :: st) h := ex_st cal (s := s_ald 0 1) rfl rfl
theorem u_R_fade_1 : ex cal k_R_fade 1 (ls) (aQ (some a) :: st) h = gO h a 10 (ex cal k_R_fade 4 (ls) (gf h a 5 :: st) h) := e_gf cal rfl
theorem u_R_fade_4 : ex cal k_R_fade 4 (x0 :: aI v :: ls) (st) h = ex cal k_R_fade 5 (x0 :: aI v :: ls) (aI v :: st) h := ex_st cal (s := s_ild 1 5) rfl rfl
theorem u_R_fade_5 : ex cal k_R_fade 5 (ls) (aI i :: aQ (some a) :: st) h = gA h a i (ex cal k_R_fade 6 (ls) (aI (ai h a (wr i)) :: st) h) := e_ia cal rfl
theorem u_R_fade_6 : ex cal k_R_fade 6 (ls) (st) h = ex cal k_R_fade 7 (ls) (aI 1 :: st) h := e_push cal rfl
theorem u_R_fade_7 : ex cal k_R_fade 7 (ls) (aI j :: aI i :: st) h = if wr i = wr j then ex cal k_R_fade 20 (ls) (st) h else ex cal k_R_fade 10 (ls) (st) h := e_iceq cal rfl
theorem u_R_fade_10 : ex cal k_R_fade 10 (aQ r :: ls) (st) h = ex cal k_R_fade 11 (aQ r :: ls) (aQ r :: st) h := ex_st cal (s := s_ald 0 11) rfl rfl
theorem u_R_fade_11 : ex cal k_R_fade 11 (ls) (aQ (some a) :: st) h = gO h a 10 (ex cal k_R_fade 14 (ls) (gf h a 5 :: st) h) := e_gf cal rfl
theorem u_R_fade_14 : ex cal k_R_fade 14 (x0 :: aI v :: ls) (st) h = ex cal k_R_fade 15 (x0 :: aI v :: ls) (aI v :: st) h := ex_st cal (s := s_ild 1 15) rfl rfl
theorem u_R_fade_15 : ex cal k_R_fade 15 (ls) (aI i :: aQ (some a) :: st) h = gA h a i (ex cal k_R_fade 16 (ls) (aI (ai h a (wr i)) :: st) h) := e_ia cal rfl
theorem u_R_fade_16 : ex cal k_R_fade 16 (ls) (st) h = ex cal k_R_fade 17 (ls) (aI 5 :: st) h := e_push cal rfl
theorem u_R_fade_17 : ex cal k_R_fade 17 (ls) (aI j :: aI i :: st) h = if wr i = wr j then ex cal k_R_fade 20 (ls) (st) h else ex cal k_R_fade 35 (ls) (st) h := e_icne cal rfl
theorem u_R_fade_20 : ex cal k_R_fade 20 (aQ r :: ls) (st) h = ex cal k_R_fade 21 (aQ r :: ls) (aQ r :: st) h := ex_st cal (s := s_ald 0 21) rfl rfl
theorem u_R_fade_21 : ex cal k_R_fade 21 (ls) (st) h = ex cal k_R_fade 23 (ls) (aI 21 :: st) h := e_push cal rfl
theorem u_R_fade_23 (hl : Nat.ble st.length 4 = true) : ex cal k_R_fade 23 (ls) (aI z0 :: aQ (some a) :: st) h = gO h a 10 (kk cal k_R_fade 26 ls st (cal M_R_notes [aQ (some a), aI z0] h)) := e_callV cal (ci := 10) (as := [aI z0]) rfl (by decide) rfl (Nat.le_of_ble_eq_true hl)
theorem u_R_fade_26 : ex cal k_R_fade 26 (aQ r :: ls) (st) h = ex cal k_R_fade 27 (aQ r :: ls) (aQ r :: st) h := ex_st cal (s := s_ald 0 27) rfl rfl
theorem u_R_fade_27 : ex cal k_R_fade 27 (x0 :: aI v :: ls) (st) h = ex cal k_R_fade 28 (x0 :: aI v :: ls) (aI v :: st) h := ex_st cal (s := s_ild 1 28) rfl rfl
theorem u_R_fade_28 : ex cal k_R_fade 28 (x0 :: x1 :: aI v :: ls) (st) h = ex cal k_R_fade 29 (x0 :: x1 :: aI v :: ls) (aI v :: st) h := ex_st cal (s := s_ild 2 29) rfl rfl
theorem u_R_fade_29 : ex cal k_R_fade 29 (ls) (st) h = ex cal k_R_fade 30 (ls) (aI 1 :: st) h := e_push cal rfl
theorem u_R_fade_30 : ex cal k_R_fade 30 (ls) (aI j :: aI i :: st) h = ex cal k_R_fade 31 (ls) (aI (i + j) :: st) h := e_bin cal rfl
theorem u_R_fade_31 (hl : Nat.ble st.length 4 = true) : ex cal k_R_fade 31 (ls) (aI z1 :: aI z0 :: aQ (some a) :: st) h = gO h a 10 (kk cal k_R_fade 34 ls st (cal M_R_plainFade [aQ (some a), aI z0, aI z1] h)) := e_callV cal (ci := 10) (as := [aI z1, aI z0]) rfl (by decide) rfl (Nat.le_of_ble_eq_true hl)
theorem u_R_fade_34 : ex cal k_R_fade 34 (ls) ([aI v]) h = some (some (aI v), h) := e_ret1 cal rfl
theorem u_R_fade_35 : ex cal k_R_fade 35 (aQ r :: ls) (st) h = ex cal k_R_fade 36 (aQ r :: ls) (aQ r :: st) h := ex_st cal (s := s_ald 0 36) rfl rfl
theorem u_R_fade_36 : ex cal k_R_fade 36 (ls) (aQ (some a) :: st) h = gO h a 10 (ex cal k_R_fade 39 (ls) (gf h a 5 :: st) h) := e_gf cal rfl
theorem u_R_fade_39 : ex cal k_R_fade 39 (x0 :: aI v :: ls) (st) h = ex cal k_R_fade 40 (x0 :: aI v :: ls) (aI v :: st) h := ex_st cal (s := s_ild 1 40) rfl rfl
theorem u_R_fade_40 : ex cal k_R_fade 40 (ls) (aI i :: aQ (some a) :: st) h = gA h a i (ex cal k_R_fade 41 (ls) (aI (ai h a (wr i)) :: st) h) := e_ia cal rfl
theorem u_R_fade_41 : ex cal k_R_fade 41 (ls) (st) h = ex cal k_R_fade 42 (ls) (aI 4 :: st) h := e_push cal rfl
theorem u_R_fade_42 : ex cal k_R_fade 42 (ls) (aI j :: aI i :: st) h = if wr i = wr j then ex cal k_R_fade 52 (ls) (st) h else ex cal k_R_fade 45 (ls) (st) h := e_iceq cal rfl
theorem u_R_fade_45 : ex cal k_R_fade 45 (aQ r :: ls) (st) h = ex cal k_R_fade 46 (aQ r :: ls) (aQ r :: st) h := ex_st cal (s := s_ald 0 46) rfl rfl
theorem u_R_fade_46 : ex cal k_R_fade 46 (x0 :: aI v :: ls) (st) h = ex cal k_R_fade 47 (x0 :: aI v :: ls) (aI v :: st) h := ex_st cal (s := s_ild 1 47) rfl rfl
theorem u_R_fade_47 : ex cal k_R_fade 47 (x0 :: x1 :: aI v :: ls) (st) h = ex cal k_R_fade 48 (x0 :: x1 :: aI v :: ls) (aI v :: st) h := ex_st cal (s := s_ild 2 48) rfl rfl
theorem u_R_fade_48 (hl : Nat.ble st.length 4 = true) : ex cal k_R_fade 48 (ls) (aI z1 :: aI z0 :: aQ (some a) :: st) h = gO h a 10 (kk cal k_R_fade 51 ls st (cal M_R_plainFade [aQ (some a), aI z0, aI z1] h)) := e_callV cal (ci := 10) (as := [aI z1, aI z0]) rfl (by decide) rfl (Nat.le_of_ble_eq_true hl)
theorem u_R_fade_51 : ex cal k_R_fade 51 (ls) ([aI v]) h = some (some (aI v), h) := e_ret1 cal rfl
theorem u_R_fade_52 : ex cal k_R_fade 52 (aQ r :: ls) (st) h = ex cal k_R_fade 53 (aQ r :: ls) (aQ r :: st) h := ex_st cal (s := s_ald 0 53) rfl rfl
theorem u_R_fade_53 : ex cal k_R_fade 53 (ls) (st) h = ex cal k_R_fade 55 (ls) (aI 50 :: st) h := e_push cal rfl
theorem u_R_fade_55 (hl : Nat.ble st.length 4 = true) : ex cal k_R_fade 55 (ls) (aI z0 :: aQ (some a) :: st) h = gO h a 10 (kk cal k_R_fade 58 ls st (cal M_R_notes [aQ (some a), aI z0] h)) := e_callV cal (ci := 10) (as := [aI z0]) rfl (by decide) rfl (Nat.le_of_ble_eq_true hl)
theorem u_R_fade_58 : ex cal k_R_fade 58 (aQ r :: ls) (st) h = ex cal k_R_fade 59 (aQ r :: ls) (aQ r :: st) h := ex_st cal (s := s_ald 0 59) rfl rfl
theorem u_R_fade_59 : ex cal k_R_fade 59 (x0 :: aI v :: ls) (st) h = ex cal k_R_fade 60 (x0 :: aI v :: ls) (aI v :: st) h := ex_st cal (s := s_ild 1 60) rfl rfl
theorem u_R_fade_60 : ex cal k_R_fade 60 (x0 :: x1 :: aI v :: ls) (st) h = ex cal k_R_fade 61 (x0 :: x1 :: aI v :: ls) (aI v :: st) h := ex_st cal (s := s_ild 2 61) rfl rfl
theorem u_R_fade_61 (hl : Nat.ble st.length 4 = true) : ex cal k_R_fade 61 (ls) (aI z1 :: aI z0 :: aQ (some a) :: st) h = gO h a 10 (kk cal k_R_fade 64 ls st (cal M_R_know [aQ (some a), aI z0, aI z1] h)) := e_callV cal (ci := 10) (as := [aI z1, aI z0]) rfl (by decide) rfl (Nat.le_of_ble_eq_true hl)
theorem u_R_fade_64 (hx : aNl x2 = true) : ex cal k_R_fade 64 (x0 :: x1 :: x2 :: y :: ls) (aI v :: st) h = ex cal k_R_fade 65 (x0 :: x1 :: x2 :: aI v :: ls) (st) h := e_ist (ls := x0 :: x1 :: x2 :: y :: ls) (k := 3) rfl hx (by simp only [List.length_cons]; omega)
theorem u_R_fade_65 : ex cal k_R_fade 65 (x0 :: x1 :: x2 :: aI v :: ls) (st) h = ex cal k_R_fade 66 (x0 :: x1 :: x2 :: aI v :: ls) (aI v :: st) h := ex_st cal (s := s_ild 3 66) rfl rfl
theorem u_R_fade_66 : ex cal k_R_fade 66 (aQ r :: ls) (st) h = ex cal k_R_fade 67 (aQ r :: ls) (aQ r :: st) h := ex_st cal (s := s_ald 0 67) rfl rfl
theorem u_R_fade_67 : ex cal k_R_fade 67 (x0 :: aI v :: ls) (st) h = ex cal k_R_fade 68 (x0 :: aI v :: ls) (aI v :: st) h := ex_st cal (s := s_ild 1 68) rfl rfl
theorem u_R_fade_68 : ex cal k_R_fade 68 (x0 :: x1 :: aI v :: ls) (st) h = ex cal k_R_fade 69 (x0 :: x1 :: aI v :: ls) (aI v :: st) h := ex_st cal (s := s_ild 2 69) rfl rfl
theorem u_R_fade_69 (hl : Nat.ble st.length 4 = true) : ex cal k_R_fade 69 (ls) (aI z1 :: aI z0 :: aQ (some a) :: st) h = gO h a 10 (kk cal k_R_fade 72 ls st (cal M_R_plainFade [aQ (some a), aI z0, aI z1] h)) := e_callV cal (ci := 10) (as := [aI z1, aI z0]) rfl (by decide) rfl (Nat.le_of_ble_eq_true hl)
theorem u_R_fade_72 : ex cal k_R_fade 72 (ls) (aI j :: aI i :: st) h = ex cal k_R_fade 73 (ls) (aI (i - j) :: st) h := e_bin cal rfl
theorem u_R_fade_73 : ex cal k_R_fade 73 (ls) ([aI v]) h = some (some (aI v), h) := e_ret1 cal rfl
theorem n_R_fade (d : Nat) : ev (d + 1) M_R_fade [aQ (some a), aI z0, aI z1] h = ex (ev d) k_R_fade 0 [aQ (some a), aI z0, aI z1, aU] [] h := rfl
theorem u_R_act_0 : ex cal k_R_act 0 (aQ r :: ls) (st) h = ex cal k_R_act 1 (aQ r :: ls) (aQ r :: st) h := ex_st cal (s := s_ald 0 1) rfl rfl
theorem u_R_act_1 : ex cal k_R_act 1 (x0 :: aI v :: ls) (st) h = ex cal k_R_act 2 (x0 :: aI v :: ls) (aI v :: st) h := ex_st cal (s := s_ild 1 2) rfl rfl
theorem u_R_act_2 (hl : Nat.ble st.length 4 = true) : ex cal k_R_act 2 (ls) (aI z0 :: aQ (some a) :: st) h = gO h a 10 (kk cal k_R_act 5 ls st (cal M_R_isChange [aQ (some a), aI z0] h)) := e_callV cal (ci := 10) (as := [aI z0]) rfl (by decide) rfl (Nat.le_of_ble_eq_true hl)
theorem u_R_act_5 : ex cal k_R_act 5 (ls) (aI i :: st) h = if wr i = 0 then ex cal k_R_act 20 (ls) (st) h else ex cal k_R_act 8 (ls) (st) h := e_ifeq cal rfl
theorem u_R_act_8 : ex cal k_R_act 8 (x0 :: x1 :: aI v :: ls) (st) h = ex cal k_R_act 9 (x0 :: x1 :: aI v :: ls) (aI v :: st) h := ex_st cal (s := s_ild 2 9) rfl rfl
theorem u_R_act_9 : ex cal k_R_act 9 (ls) (aI i :: st) h = ex cal k_R_act 10 (ls) (aL (wr i) :: st) h := ex_st cal (s := s_i2l 10) rfl rfl
theorem u_R_act_10 : ex cal k_R_act 10 (ls) (st) h = ex cal k_R_act 11 (ls) (aL 0 :: st) h := e_push cal rfl
theorem u_R_act_11 : ex cal k_R_act 11 (ls) (st) h = ex cal k_R_act 14 (ls) (aL 3 :: st) h := e_push cal rfl
theorem u_R_act_14 (hl : Nat.ble st.length 4 = true) : ex cal k_R_act 14 (ls) (aL z2 :: aL z1 :: aL z0 :: st) h = kk cal k_R_act 17 ls st (cal M_R_isIn [aL z0, aL z1, aL z2] h) := e_call cal (as := [aL z2, aL z1, aL z0]) rfl rfl (Nat.le_of_ble_eq_true hl)
theorem u_R_act_17 : ex cal k_R_act 17 (ls) (aI i :: st) h = if wr i = 0 then ex cal k_R_act 20 (ls) (st) h else ex cal k_R_act 26 (ls) (st) h := e_ifne cal rfl
theorem u_R_act_20 : ex cal k_R_act 20 (aQ r :: ls) (st) h = ex cal k_R_act 21 (aQ r :: ls) (aQ r :: st) h := ex_st cal (s := s_ald 0 21) rfl rfl
theorem u_R_act_21 : ex cal k_R_act 21 (ls) (st) h = ex cal k_R_act 22 (ls) (aI 1 :: st) h := e_push cal rfl
theorem u_R_act_22 (hl : Nat.ble st.length 4 = true) : ex cal k_R_act 22 (ls) (aI z0 :: aQ (some a) :: st) h = gO h a 10 (kk cal k_R_act 25 ls st (cal M_R_refused [aQ (some a), aI z0] h)) := e_callV cal (ci := 10) (as := [aI z0]) rfl (by decide) rfl (Nat.le_of_ble_eq_true hl)
theorem u_R_act_25 : ex cal k_R_act 25 (ls) ([aI v]) h = some (some (aI v), h) := e_ret1 cal rfl
theorem u_R_act_26 : ex cal k_R_act 26 (aQ r :: ls) (st) h = ex cal k_R_act 27 (aQ r :: ls) (aQ r :: st) h := ex_st cal (s := s_ald 0 27) rfl rfl
theorem u_R_act_27 : ex cal k_R_act 27 (ls) (st) h = ex cal k_R_act 28 (ls) (aI 0 :: st) h := e_push cal rfl
theorem u_R_act_28 : ex cal k_R_act 28 (ls) (aI v :: aQ (some a) :: st) h = gO h a 10 (ex cal k_R_act 31 (ls) (st) (pf h a 28 (aI v))) := e_pf1 rfl rfl
theorem u_R_act_31 : ex cal k_R_act 31 (aQ r :: ls) (st) h = ex cal k_R_act 32 (aQ r :: ls) (aQ r :: st) h := ex_st cal (s := s_ald 0 32) rfl rfl
theorem u_R_act_32 : ex cal k_R_act 32 (x0 :: x1 :: aI v :: ls) (st) h = ex cal k_R_act 33 (x0 :: x1 :: aI v :: ls) (aI v :: st) h := ex_st cal (s := s_ild 2 33) rfl rfl
theorem u_R_act_33 : ex cal k_R_act 33 (ls) (aI i :: st) h = if wr i = 0 then ex cal k_R_act 36 (ls) (st) h else ex cal k_R_act 45 (ls) (st) h := e_ifne cal rfl
theorem u_R_act_36 : ex cal k_R_act 36 (aQ r :: ls) (st) h = ex cal k_R_act 37 (aQ r :: ls) (aQ r :: st) h := ex_st cal (s := s_ald 0 37) rfl rfl
theorem u_R_act_37 : ex cal k_R_act 37 (x0 :: aI v :: ls) (st) h = ex cal k_R_act 38 (x0 :: aI v :: ls) (aI v :: st) h := ex_st cal (s := s_ild 1 38) rfl rfl
theorem u_R_act_38 : ex cal k_R_act 38 (x0 :: x1 :: x2 :: aI v :: ls) (st) h = ex cal k_R_act 39 (x0 :: x1 :: x2 :: aI v :: ls) (aI v :: st) h := ex_st cal (s := s_ild 3 39) rfl rfl
theorem u_R_act_39 (hl : Nat.ble st.length 4 = true) : ex cal k_R_act 39 (ls) (aI z1 :: aI z0 :: aQ (some a) :: st) h = gO h a 10 (kk cal k_R_act 42 ls st (cal M_R_write [aQ (some a), aI z0, aI z1] h)) := e_callV cal (ci := 10) (as := [aI z1, aI z0]) rfl (by decide) rfl (Nat.le_of_ble_eq_true hl)
theorem u_R_act_42 : ex cal k_R_act 42 (ls) (st) h = ex cal k_R_act 79 (ls) (st) h := ex_st cal (s := s_go 79) rfl rfl
theorem u_R_act_45 : ex cal k_R_act 45 (x0 :: x1 :: aI v :: ls) (st) h = ex cal k_R_act 46 (x0 :: x1 :: aI v :: ls) (aI v :: st) h := ex_st cal (s := s_ild 2 46) rfl rfl
theorem u_R_act_46 : ex cal k_R_act 46 (ls) (st) h = ex cal k_R_act 47 (ls) (aI 1 :: st) h := e_push cal rfl
theorem u_R_act_47 : ex cal k_R_act 47 (ls) (aI j :: aI i :: st) h = if wr i = wr j then ex cal k_R_act 50 (ls) (st) h else ex cal k_R_act 59 (ls) (st) h := e_icne cal rfl
theorem u_R_act_50 : ex cal k_R_act 50 (aQ r :: ls) (st) h = ex cal k_R_act 51 (aQ r :: ls) (aQ r :: st) h := ex_st cal (s := s_ald 0 51) rfl rfl
theorem u_R_act_51 : ex cal k_R_act 51 (x0 :: aI v :: ls) (st) h = ex cal k_R_act 52 (x0 :: aI v :: ls) (aI v :: st) h := ex_st cal (s := s_ild 1 52) rfl rfl
theorem u_R_act_52 : ex cal k_R_act 52 (x0 :: x1 :: x2 :: aI v :: ls) (st) h = ex cal k_R_act 53 (x0 :: x1 :: x2 :: aI v :: ls) (aI v :: st) h := ex_st cal (s := s_ild 3 53) rfl rfl
theorem u_R_act_53 (hl : Nat.ble st.length 4 = true) : ex cal k_R_act 53 (ls) (aI z1 :: aI z0 :: aQ (some a) :: st) h = gO h a 10 (kk cal k_R_act 56 ls st (cal M_R_move [aQ (some a), aI z0, aI z1] h)) := e_callV cal (ci := 10) (as := [aI z1, aI z0]) rfl (by decide) rfl (Nat.le_of_ble_eq_true hl)
theorem u_R_act_56 : ex cal k_R_act 56 (ls) (st) h = ex cal k_R_act 79 (ls) (st) h := ex_st cal (s := s_go 79) rfl rfl
theorem u_R_act_59 : ex cal k_R_act 59 (x0 :: x1 :: aI v :: ls) (st) h = ex cal k_R_act 60 (x0 :: x1 :: aI v :: ls) (aI v :: st) h := ex_st cal (s := s_ild 2 60) rfl rfl
theorem u_R_act_60 : ex cal k_R_act 60 (ls) (st) h = ex cal k_R_act 61 (ls) (aI 2 :: st) h := e_push cal rfl
theorem u_R_act_61 : ex cal k_R_act 61 (ls) (aI j :: aI i :: st) h = if wr i = wr j then ex cal k_R_act 64 (ls) (st) h else ex cal k_R_act 73 (ls) (st) h := e_icne cal rfl
theorem u_R_act_64 : ex cal k_R_act 64 (aQ r :: ls) (st) h = ex cal k_R_act 65 (aQ r :: ls) (aQ r :: st) h := ex_st cal (s := s_ald 0 65) rfl rfl
theorem u_R_act_65 : ex cal k_R_act 65 (x0 :: aI v :: ls) (st) h = ex cal k_R_act 66 (x0 :: aI v :: ls) (aI v :: st) h := ex_st cal (s := s_ild 1 66) rfl rfl
theorem u_R_act_66 : ex cal k_R_act 66 (x0 :: x1 :: x2 :: aI v :: ls) (st) h = ex cal k_R_act 67 (x0 :: x1 :: x2 :: aI v :: ls) (aI v :: st) h := ex_st cal (s := s_ild 3 67) rfl rfl
theorem u_R_act_67 (hl : Nat.ble st.length 4 = true) : ex cal k_R_act 67 (ls) (aI z1 :: aI z0 :: aQ (some a) :: st) h = gO h a 10 (kk cal k_R_act 70 ls st (cal M_R_know [aQ (some a), aI z0, aI z1] h)) := e_callV cal (ci := 10) (as := [aI z1, aI z0]) rfl (by decide) rfl (Nat.le_of_ble_eq_true hl)
theorem u_R_act_70 : ex cal k_R_act 70 (ls) (st) h = ex cal k_R_act 79 (ls) (st) h := ex_st cal (s := s_go 79) rfl rfl
theorem u_R_act_73 : ex cal k_R_act 73 (aQ r :: ls) (st) h = ex cal k_R_act 74 (aQ r :: ls) (aQ r :: st) h := ex_st cal (s := s_ald 0 74) rfl rfl
theorem u_R_act_74 : ex cal k_R_act 74 (x0 :: aI v :: ls) (st) h = ex cal k_R_act 75 (x0 :: aI v :: ls) (aI v :: st) h := ex_st cal (s := s_ild 1 75) rfl rfl
theorem u_R_act_75 : ex cal k_R_act 75 (x0 :: x1 :: x2 :: aI v :: ls) (st) h = ex cal k_R_act 76 (x0 :: x1 :: x2 :: aI v :: ls) (aI v :: st) h := ex_st cal (s := s_ild 3 76) rfl rfl
theorem u_R_act_76 (hl : Nat.ble st.length 4 = true) : ex cal k_R_act 76 (ls) (aI z1 :: aI z0 :: aQ (some a) :: st) h = gO h a 10 (kk cal k_R_act 79 ls st (cal M_R_fade [aQ (some a), aI z0, aI z1] h)) := e_callV cal (ci := 10) (as := [aI z1, aI z0]) rfl (by decide) rfl (Nat.le_of_ble_eq_true hl)
theorem u_R_act_79 (hl : Nat.ble st.length 4 = true) : ex cal k_R_act 79 (ls) (aI z0 :: aQ (some a) :: st) h = gO h a 10 (kk cal k_R_act 82 ls st (cal M_R_done [aQ (some a), aI z0] h)) := e_callV cal (ci := 10) (as := [aI z0]) rfl (by decide) rfl (Nat.le_of_ble_eq_true hl)
theorem u_R_act_82 : ex cal k_R_act 82 (ls) ([aI v]) h = some (some (aI v), h) := e_ret1 cal rfl
theorem n_R_act (d : Nat) : ev (d + 1) M_R_act [aQ (some a), aI z0, aI z1, aI z2] h = ex (ev d) k_R_act 0 [aQ (some a), aI z0, aI z1, aI z2] [] h := rfl
theorem u_R_trace_0 : ex cal k_R_trace 0 (x0 :: aI v :: ls) (st) h = ex cal k_R_trace 1 (x0 :: aI v :: ls) (aI v :: st) h := ex_st cal (s := s_ild 1 1) rfl rfl
theorem u_R_trace_1 : ex cal k_R_trace 1 (ls) (aI i :: st) h = ex cal k_R_trace 2 (ls) (aL (wr i) :: st) h := ex_st cal (s := s_i2l 2) rfl rfl
theorem u_R_trace_2 : ex cal k_R_trace 2 (ls) (st) h = ex cal k_R_trace 3 (ls) (aL 0 :: st) h := e_push cal rfl
theorem u_R_trace_3 : ex cal k_R_trace 3 (aQ r :: ls) (st) h = ex cal k_R_trace 4 (aQ r :: ls) (aQ r :: st) h := ex_st cal (s := s_ald 0 4) rfl rfl
theorem u_R_trace_4 : ex cal k_R_trace 4 (ls) (aQ (some a) :: st) h = gO h a 10 (ex cal k_R_trace 7 (ls) (gf h a 28 :: st) h) := e_gf cal rfl
theorem u_R_trace_7 : ex cal k_R_trace 7 (ls) (st) h = ex cal k_R_trace 9 (ls) (aI 50 :: st) h := e_push cal rfl
theorem u_R_trace_9 : ex cal k_R_trace 9 (ls) (aI j :: aI i :: st) h = if wr i < wr j then ex cal k_R_trace 12 (ls) (st) h else ex cal k_R_trace 19 (ls) (st) h := e_icge cal rfl
theorem u_R_trace_12 : ex cal k_R_trace 12 (aQ r :: ls) (st) h = ex cal k_R_trace 13 (aQ r :: ls) (aQ r :: st) h := ex_st cal (s := s_ald 0 13) rfl rfl
theorem u_R_trace_13 : ex cal k_R_trace 13 (ls) (aQ (some a) :: st) h = gO h a 10 (ex cal k_R_trace 16 (ls) (gf h a 28 :: st) h) := e_gf cal rfl
theorem u_R_trace_16 : ex cal k_R_trace 16 (ls) (st) h = ex cal k_R_trace 21 (ls) (st) h := ex_st cal (s := s_go 21) rfl rfl
theorem u_R_trace_19 : ex cal k_R_trace 19 (ls) (st) h = ex cal k_R_trace 21 (ls) (aI 50 :: st) h := e_push cal rfl
theorem u_R_trace_21 : ex cal k_R_trace 21 (ls) (st) h = ex cal k_R_trace 22 (ls) (aI 1 :: st) h := e_push cal rfl
theorem u_R_trace_22 : ex cal k_R_trace 22 (ls) (aI j :: aI i :: st) h = ex cal k_R_trace 23 (ls) (aI (i - j) :: st) h := e_bin cal rfl
theorem u_R_trace_23 : ex cal k_R_trace 23 (ls) (aI i :: st) h = ex cal k_R_trace 24 (ls) (aL (wr i) :: st) h := ex_st cal (s := s_i2l 24) rfl rfl
theorem u_R_trace_24 (hl : Nat.ble st.length 4 = true) : ex cal k_R_trace 24 (ls) (aL z2 :: aL z1 :: aL z0 :: st) h = kk cal k_R_trace 27 ls st (cal M_R_isIn [aL z0, aL z1, aL z2] h) := e_call cal (as := [aL z2, aL z1, aL z0]) rfl rfl (Nat.le_of_ble_eq_true hl)
theorem u_R_trace_27 : ex cal k_R_trace 27 (ls) (aI i :: st) h = if wr i = 0 then ex cal k_R_trace 39 (ls) (st) h else ex cal k_R_trace 30 (ls) (st) h := e_ifeq cal rfl
theorem u_R_trace_30 : ex cal k_R_trace 30 (aQ r :: ls) (st) h = ex cal k_R_trace 31 (aQ r :: ls) (aQ r :: st) h := ex_st cal (s := s_ald 0 31) rfl rfl
theorem u_R_trace_31 : ex cal k_R_trace 31 (ls) (aQ (some a) :: st) h = gO h a 10 (ex cal k_R_trace 34 (ls) (gf h a 27 :: st) h) := e_gf cal rfl
theorem u_R_trace_34 : ex cal k_R_trace 34 (x0 :: aI v :: ls) (st) h = ex cal k_R_trace 35 (x0 :: aI v :: ls) (aI v :: st) h := ex_st cal (s := s_ild 1 35) rfl rfl
theorem u_R_trace_35 : ex cal k_R_trace 35 (ls) (aI i :: aQ (some a) :: st) h = gA h a i (ex cal k_R_trace 36 (ls) (aI (ai h a (wr i)) :: st) h) := e_ia cal rfl
theorem u_R_trace_36 : ex cal k_R_trace 36 (ls) (st) h = ex cal k_R_trace 40 (ls) (st) h := ex_st cal (s := s_go 40) rfl rfl
theorem u_R_trace_39 : ex cal k_R_trace 39 (ls) (st) h = ex cal k_R_trace 40 (ls) (aI (-1) :: st) h := e_push cal rfl
theorem u_R_trace_40 : ex cal k_R_trace 40 (ls) ([aI v]) h = some (some (aI v), h) := e_ret1 cal rfl
theorem n_R_trace (d : Nat) : ev (d + 1) M_R_trace [aQ (some a), aI z0] h = ex (ev d) k_R_trace 0 [aQ (some a), aI z0] [] h := rfl
theorem u_R_sheet_0 : ex cal k_R_sheet 0 (x0 :: aI v :: ls) (st) h = ex cal k_R_sheet 1 (x0 :: aI v :: ls) (aI v :: st) h := ex_st cal (s := s_ild 1 1) rfl rfl
theorem u_R_sheet_1 : ex cal k_R_sheet 1 (ls) (aI i :: st) h = ex cal k_R_sheet 2 (ls) (aL (wr i) :: st) h := ex_st cal (s := s_i2l 2) rfl rfl
theorem u_R_sheet_2 : ex cal k_R_sheet 2 (ls) (st) h = ex cal k_R_sheet 3 (ls) (aL 0 :: st) h := e_push cal rfl
theorem u_R_sheet_3 : ex cal k_R_sheet 3 (ls) (st) h = ex cal k_R_sheet 6 (ls) (aL 3 :: st) h := e_push cal rfl
theorem u_R_sheet_6 (hl : Nat.ble st.length 4 = true) : ex cal k_R_sheet 6 (ls) (aL z2 :: aL z1 :: aL z0 :: st) h = kk cal k_R_sheet 9 ls st (cal M_R_isIn [aL z0, aL z1, aL z2] h) := e_call cal (as := [aL z2, aL z1, aL z0]) rfl rfl (Nat.le_of_ble_eq_true hl)
theorem u_R_sheet_9 : ex cal k_R_sheet 9 (ls) (aI i :: st) h = if wr i = 0 then ex cal k_R_sheet 42 (ls) (st) h else ex cal k_R_sheet 12 (ls) (st) h := e_ifeq cal rfl
theorem u_R_sheet_12 : ex cal k_R_sheet 12 (x0 :: x1 :: aI v :: ls) (st) h = ex cal k_R_sheet 13 (x0 :: x1 :: aI v :: ls) (aI v :: st) h := ex_st cal (s := s_ild 2 13) rfl rfl
theorem u_R_sheet_13 : ex cal k_R_sheet 13 (ls) (aI i :: st) h = ex cal k_R_sheet 14 (ls) (aL (wr i) :: st) h := ex_st cal (s := s_i2l 14) rfl rfl
theorem u_R_sheet_14 : ex cal k_R_sheet 14 (ls) (st) h = ex cal k_R_sheet 17 (ls) (aL (-1) :: st) h := e_push cal rfl
theorem u_R_sheet_17 : ex cal k_R_sheet 17 (ls) (st) h = ex cal k_R_sheet 20 (ls) (aL 2 :: st) h := e_push cal rfl
theorem u_R_sheet_20 (hl : Nat.ble st.length 4 = true) : ex cal k_R_sheet 20 (ls) (aL z2 :: aL z1 :: aL z0 :: st) h = kk cal k_R_sheet 23 ls st (cal M_R_isIn [aL z0, aL z1, aL z2] h) := e_call cal (as := [aL z2, aL z1, aL z0]) rfl rfl (Nat.le_of_ble_eq_true hl)
theorem u_R_sheet_23 : ex cal k_R_sheet 23 (ls) (aI i :: st) h = if wr i = 0 then ex cal k_R_sheet 42 (ls) (st) h else ex cal k_R_sheet 26 (ls) (st) h := e_ifeq cal rfl
theorem u_R_sheet_26 : ex cal k_R_sheet 26 (x0 :: x1 :: aI v :: ls) (st) h = ex cal k_R_sheet 27 (x0 :: x1 :: aI v :: ls) (aI v :: st) h := ex_st cal (s := s_ild 2 27) rfl rfl
theorem u_R_sheet_27 : ex cal k_R_sheet 27 (ls) (aI i :: st) h = if wr i < 0 then ex cal k_R_sheet 48 (ls) (st) h else ex cal k_R_sheet 30 (ls) (st) h := e_iflt cal rfl
theorem u_R_sheet_30 : ex cal k_R_sheet 30 (x0 :: x1 :: x2 :: aI v :: ls) (st) h = ex cal k_R_sheet 31 (x0 :: x1 :: x2 :: aI v :: ls) (aI v :: st) h := ex_st cal (s := s_ild 3 31) rfl rfl
theorem u_R_sheet_31 : ex cal k_R_sheet 31 (ls) (aI i :: st) h = ex cal k_R_sheet 32 (ls) (aL (wr i) :: st) h := ex_st cal (s := s_i2l 32) rfl rfl
theorem u_R_sheet_32 : ex cal k_R_sheet 32 (ls) (st) h = ex cal k_R_sheet 33 (ls) (aL 0 :: st) h := e_push cal rfl
theorem u_R_sheet_33 : ex cal k_R_sheet 33 (ls) (st) h = ex cal k_R_sheet 36 (ls) (aL 40 :: st) h := e_push cal rfl
theorem u_R_sheet_36 (hl : Nat.ble st.length 4 = true) : ex cal k_R_sheet 36 (ls) (aL z2 :: aL z1 :: aL z0 :: st) h = kk cal k_R_sheet 39 ls st (cal M_R_isIn [aL z0, aL z1, aL z2] h) := e_call cal (as := [aL z2, aL z1, aL z0]) rfl rfl (Nat.le_of_ble_eq_true hl)
theorem u_R_sheet_39 : ex cal k_R_sheet 39 (ls) (aI i :: st) h = if wr i = 0 then ex cal k_R_sheet 42 (ls) (st) h else ex cal k_R_sheet 48 (ls) (st) h := e_ifne cal rfl
theorem u_R_sheet_42 : ex cal k_R_sheet 42 (aQ r :: ls) (st) h = ex cal k_R_sheet 43 (aQ r :: ls) (aQ r :: st) h := ex_st cal (s := s_ald 0 43) rfl rfl
theorem u_R_sheet_43 : ex cal k_R_sheet 43 (ls) (st) h = ex cal k_R_sheet 44 (ls) (aI 1 :: st) h := e_push cal rfl
theorem u_R_sheet_44 (hl : Nat.ble st.length 4 = true) : ex cal k_R_sheet 44 (ls) (aI z0 :: aQ (some a) :: st) h = gO h a 10 (kk cal k_R_sheet 47 ls st (cal M_R_refused [aQ (some a), aI z0] h)) := e_callV cal (ci := 10) (as := [aI z0]) rfl (by decide) rfl (Nat.le_of_ble_eq_true hl)
theorem u_R_sheet_47 : ex cal k_R_sheet 47 (ls) ([aI v]) h = some (some (aI v), h) := e_ret1 cal rfl
theorem u_R_sheet_48 : ex cal k_R_sheet 48 (aQ r :: ls) (st) h = ex cal k_R_sheet 49 (aQ r :: ls) (aQ r :: st) h := ex_st cal (s := s_ald 0 49) rfl rfl
theorem u_R_sheet_49 : ex cal k_R_sheet 49 (ls) (aQ (some a) :: st) h = gO h a 10 (ex cal k_R_sheet 52 (ls) (gf h a 29 :: st) h) := e_gf cal rfl
theorem u_R_sheet_52 : ex cal k_R_sheet 52 (x0 :: aI v :: ls) (st) h = ex cal k_R_sheet 53 (x0 :: aI v :: ls) (aI v :: st) h := ex_st cal (s := s_ild 1 53) rfl rfl
theorem u_R_sheet_53 : ex cal k_R_sheet 53 (x0 :: x1 :: aI v :: ls) (st) h = ex cal k_R_sheet 54 (x0 :: x1 :: aI v :: ls) (aI v :: st) h := ex_st cal (s := s_ild 2 54) rfl rfl
theorem u_R_sheet_54 : ex cal k_R_sheet 54 (ls) (st) h = ex cal k_R_sheet 55 (ls) (aI 1 :: st) h := e_push cal rfl
theorem u_R_sheet_55 : ex cal k_R_sheet 55 (ls) (aI j :: aI i :: st) h = ex cal k_R_sheet 56 (ls) (aI (i + j) :: st) h := e_bin cal rfl
theorem u_R_sheet_56 (h3 : 3 ≤ a) : ex cal k_R_sheet 56 (ls) (aI v :: aI i :: aQ (some a) :: st) h = gA h a i (ex cal k_R_sheet 57 (ls) (st) (sa h a (upf (ai h a) (wr i) v))) := e_ias cal rfl h3
theorem u_R_sheet_57 : ex cal k_R_sheet 57 (aQ r :: ls) (st) h = ex cal k_R_sheet 58 (aQ r :: ls) (aQ r :: st) h := ex_st cal (s := s_ald 0 58) rfl rfl
theorem u_R_sheet_58 : ex cal k_R_sheet 58 (ls) (aQ (some a) :: st) h = gO h a 10 (ex cal k_R_sheet 61 (ls) (gf h a 30 :: st) h) := e_gf cal rfl
theorem u_R_sheet_61 : ex cal k_R_sheet 61 (x0 :: aI v :: ls) (st) h = ex cal k_R_sheet 62 (x0 :: aI v :: ls) (aI v :: st) h := ex_st cal (s := s_ild 1 62) rfl rfl
theorem u_R_sheet_62 : ex cal k_R_sheet 62 (x0 :: x1 :: aI v :: ls) (st) h = ex cal k_R_sheet 63 (x0 :: x1 :: aI v :: ls) (aI v :: st) h := ex_st cal (s := s_ild 2 63) rfl rfl
theorem u_R_sheet_63 : ex cal k_R_sheet 63 (ls) (aI i :: st) h = if wr i < 0 then ex cal k_R_sheet 66 (ls) (st) h else ex cal k_R_sheet 70 (ls) (st) h := e_ifge cal rfl
theorem u_R_sheet_66 : ex cal k_R_sheet 66 (ls) (st) h = ex cal k_R_sheet 67 (ls) (aI 0 :: st) h := e_push cal rfl
theorem u_R_sheet_67 : ex cal k_R_sheet 67 (ls) (st) h = ex cal k_R_sheet 71 (ls) (st) h := ex_st cal (s := s_go 71) rfl rfl
theorem u_R_sheet_70 : ex cal k_R_sheet 70 (x0 :: x1 :: x2 :: aI v :: ls) (st) h = ex cal k_R_sheet 71 (x0 :: x1 :: x2 :: aI v :: ls) (aI v :: st) h := ex_st cal (s := s_ild 3 71) rfl rfl
theorem u_R_sheet_71 (h3 : 3 ≤ a) : ex cal k_R_sheet 71 (ls) (aI v :: aI i :: aQ (some a) :: st) h = gA h a i (ex cal k_R_sheet 72 (ls) (st) (sa h a (upf (ai h a) (wr i) v))) := e_ias cal rfl h3
theorem u_R_sheet_72 : ex cal k_R_sheet 72 (ls) (st) h = ex cal k_R_sheet 74 (ls) (aI 40 :: st) h := e_push cal rfl
theorem u_R_sheet_74 : ex cal k_R_sheet 74 (x0 :: aI v :: ls) (st) h = ex cal k_R_sheet 75 (x0 :: aI v :: ls) (aI v :: st) h := ex_st cal (s := s_ild 1 75) rfl rfl
theorem u_R_sheet_75 : ex cal k_R_sheet 75 (ls) (aI j :: aI i :: st) h = ex cal k_R_sheet 76 (ls) (aI (i * j) :: st) h := e_bin cal rfl
theorem u_R_sheet_76 (hx : aNl x3 = true) : ex cal k_R_sheet 76 (x0 :: x1 :: x2 :: x3 :: y :: ls) (aI v :: st) h = ex cal k_R_sheet 78 (x0 :: x1 :: x2 :: x3 :: aI v :: ls) (st) h := e_ist (ls := x0 :: x1 :: x2 :: x3 :: y :: ls) (k := 4) rfl hx (by simp only [List.length_cons]; omega)
theorem u_R_sheet_78 : ex cal k_R_sheet 78 (x0 :: x1 :: x2 :: x3 :: aI v :: ls) (st) h = ex cal k_R_sheet 80 (x0 :: x1 :: x2 :: x3 :: aI v :: ls) (aI v :: st) h := ex_st cal (s := s_ild 4 80) rfl rfl
theorem u_R_sheet_80 : ex cal k_R_sheet 80 (ls) (st) h = ex cal k_R_sheet 82 (ls) (aI 40 :: st) h := e_push cal rfl
theorem u_R_sheet_82 : ex cal k_R_sheet 82 (x0 :: aI v :: ls) (st) h = ex cal k_R_sheet 83 (x0 :: aI v :: ls) (aI v :: st) h := ex_st cal (s := s_ild 1 83) rfl rfl
theorem u_R_sheet_83 : ex cal k_R_sheet 83 (ls) (aI j :: aI i :: st) h = ex cal k_R_sheet 84 (ls) (aI (i * j) :: st) h := e_bin cal rfl
theorem u_R_sheet_84 : ex cal k_R_sheet 84 (ls) (st) h = ex cal k_R_sheet 86 (ls) (aI 40 :: st) h := e_push cal rfl
theorem u_R_sheet_86 : ex cal k_R_sheet 86 (ls) (aI j :: aI i :: st) h = ex cal k_R_sheet 87 (ls) (aI (i + j) :: st) h := e_bin cal rfl
theorem u_R_sheet_87 : ex cal k_R_sheet 87 (ls) (aI j :: aI i :: st) h = if wr i < wr j then ex cal k_R_sheet 90 (ls) (st) h else ex cal k_R_sheet 104 (ls) (st) h := e_icge cal rfl
theorem u_R_sheet_90 : ex cal k_R_sheet 90 (aQ r :: ls) (st) h = ex cal k_R_sheet 91 (aQ r :: ls) (aQ r :: st) h := ex_st cal (s := s_ald 0 91) rfl rfl
theorem u_R_sheet_91 : ex cal k_R_sheet 91 (ls) (aQ (some a) :: st) h = gO h a 10 (ex cal k_R_sheet 94 (ls) (gf h a 31 :: st) h) := e_gf cal rfl
theorem u_R_sheet_94 : ex cal k_R_sheet 94 (x0 :: x1 :: x2 :: x3 :: aI v :: ls) (st) h = ex cal k_R_sheet 96 (x0 :: x1 :: x2 :: x3 :: aI v :: ls) (aI v :: st) h := ex_st cal (s := s_ild 4 96) rfl rfl
theorem u_R_sheet_96 : ex cal k_R_sheet 96 (ls) (st) h = ex cal k_R_sheet 97 (ls) (aI 0 :: st) h := e_push cal rfl
theorem u_R_sheet_97 (h3 : 3 ≤ a) : ex cal k_R_sheet 97 (ls) (aI v :: aI i :: aQ (some a) :: st) h = gA h a i (ex cal k_R_sheet 98 (ls) (st) (sa h a (upf (ai h a) (wr i) v))) := e_ias cal rfl h3
theorem u_R_sheet_98 (hx : aNl x3 = true) : ex cal k_R_sheet 98 (x0 :: x1 :: x2 :: x3 :: aI v :: ls) (st) h = ex cal k_R_sheet 101 (x0 :: x1 :: x2 :: x3 :: aI (v + 1) :: ls) (st) h := e_inc (ls := x0 :: x1 :: x2 :: x3 :: aI v :: ls) (k := 4) rfl rfl hx
theorem u_R_sheet_101 : ex cal k_R_sheet 101 (ls) (st) h = ex cal k_R_sheet 78 (ls) (st) h := ex_st cal (s := s_go 78) rfl rfl
theorem u_R_sheet_104 : ex cal k_R_sheet 104 (aQ r :: ls) (st) h = ex cal k_R_sheet 105 (aQ r :: ls) (aQ r :: st) h := ex_st cal (s := s_ald 0 105) rfl rfl
theorem u_R_sheet_105 : ex cal k_R_sheet 105 (ls) (st) h = ex cal k_R_sheet 106 (ls) (aI 1 :: st) h := e_push cal rfl
theorem u_R_sheet_106 (hl : Nat.ble st.length 4 = true) : ex cal k_R_sheet 106 (ls) (aI z0 :: aQ (some a) :: st) h = gO h a 10 (kk cal k_R_sheet 109 ls st (cal M_R_done [aQ (some a), aI z0] h)) := e_callV cal (ci := 10) (as := [aI z0]) rfl (by decide) rfl (Nat.le_of_ble_eq_true hl)
theorem u_R_sheet_109 : ex cal k_R_sheet 109 (ls) ([aI v]) h = some (some (aI v), h) := e_ret1 cal rfl
theorem n_R_sheet (d : Nat) : ev (d + 1) M_R_sheet [aQ (some a), aI z0, aI z1, aI z2] h = ex (ev d) k_R_sheet 0 [aQ (some a), aI z0, aI z1, aI z2, aU] [] h := rfl
theorem u_R_byteOf_0 : ex cal k_R_byteOf 0 (aI v :: ls) (st) h = ex cal k_R_byteOf 1 (aI v :: ls) (aI v :: st) h := ex_st cal (s := s_ild 0 1) rfl rfl
theorem u_R_byteOf_1 : ex cal k_R_byteOf 1 (ls) (st) h = ex cal k_R_byteOf 4 (ls) (aI 255 :: st) h := e_push cal rfl
theorem u_R_byteOf_4 : ex cal k_R_byteOf 4 (ls) (aI j :: aI i :: st) h = ex cal k_R_byteOf 5 (ls) (aI (wand i j) :: st) h := e_bin cal rfl
theorem u_R_byteOf_5 (hx : aNl x0 = true) : ex cal k_R_byteOf 5 (x0 :: y :: ls) (aI v :: st) h = ex cal k_R_byteOf 6 (x0 :: aI v :: ls) (st) h := e_ist (ls := x0 :: y :: ls) (k := 1) rfl hx (by simp only [List.length_cons]; omega)
theorem u_R_byteOf_6 : ex cal k_R_byteOf 6 (x0 :: aI v :: ls) (st) h = ex cal k_R_byteOf 7 (x0 :: aI v :: ls) (aI v :: st) h := ex_st cal (s := s_ild 1 7) rfl rfl
theorem u_R_byteOf_7 : ex cal k_R_byteOf 7 (ls) (st) h = ex cal k_R_byteOf 9 (ls) (aI 127 :: st) h := e_push cal rfl
theorem u_R_byteOf_9 : ex cal k_R_byteOf 9 (ls) (aI j :: aI i :: st) h = if wr j < wr i then ex cal k_R_byteOf 12 (ls) (st) h else ex cal k_R_byteOf 20 (ls) (st) h := e_icle cal rfl
theorem u_R_byteOf_12 : ex cal k_R_byteOf 12 (x0 :: aI v :: ls) (st) h = ex cal k_R_byteOf 13 (x0 :: aI v :: ls) (aI v :: st) h := ex_st cal (s := s_ild 1 13) rfl rfl
theorem u_R_byteOf_13 : ex cal k_R_byteOf 13 (ls) (st) h = ex cal k_R_byteOf 16 (ls) (aI 256 :: st) h := e_push cal rfl
theorem u_R_byteOf_16 : ex cal k_R_byteOf 16 (ls) (aI j :: aI i :: st) h = ex cal k_R_byteOf 17 (ls) (aI (i - j) :: st) h := e_bin cal rfl
theorem u_R_byteOf_17 : ex cal k_R_byteOf 17 (ls) (st) h = ex cal k_R_byteOf 21 (ls) (st) h := ex_st cal (s := s_go 21) rfl rfl
theorem u_R_byteOf_20 : ex cal k_R_byteOf 20 (x0 :: aI v :: ls) (st) h = ex cal k_R_byteOf 21 (x0 :: aI v :: ls) (aI v :: st) h := ex_st cal (s := s_ild 1 21) rfl rfl
theorem u_R_byteOf_21 : ex cal k_R_byteOf 21 (ls) ([aI v]) h = some (some (aI v), h) := e_ret1 cal rfl
theorem n_R_byteOf (d : Nat) : ev (d + 1) M_R_byteOf [aI z0] h = ex (ev d) k_R_byteOf 0 [aI z0, aU] [] h := rfl
theorem u_R_cell_0 : ex cal k_R_cell 0 (x0 :: aI v :: ls) (st) h = ex cal k_R_cell 1 (x0 :: aI v :: ls) (aI v :: st) h := ex_st cal (s := s_ild 1 1) rfl rfl
theorem u_R_cell_1 : ex cal k_R_cell 1 (ls) (aI i :: st) h = ex cal k_R_cell 2 (ls) (aL (wr i) :: st) h := ex_st cal (s := s_i2l 2) rfl rfl
theorem u_R_cell_2 : ex cal k_R_cell 2 (ls) (st) h = ex cal k_R_cell 3 (ls) (aL 0 :: st) h := e_push cal rfl
theorem u_R_cell_3 : ex cal k_R_cell 3 (ls) (st) h = ex cal k_R_cell 6 (ls) (aL 3 :: st) h := e_push cal rfl
theorem u_R_cell_6 (hl : Nat.ble st.length 4 = true) : ex cal k_R_cell 6 (ls) (aL z2 :: aL z1 :: aL z0 :: st) h = kk cal k_R_cell 9 ls st (cal M_R_isIn [aL z0, aL z1, aL z2] h) := e_call cal (as := [aL z2, aL z1, aL z0]) rfl rfl (Nat.le_of_ble_eq_true hl)
theorem u_R_cell_9 : ex cal k_R_cell 9 (ls) (aI i :: st) h = if wr i = 0 then ex cal k_R_cell 26 (ls) (st) h else ex cal k_R_cell 12 (ls) (st) h := e_ifeq cal rfl
theorem u_R_cell_12 : ex cal k_R_cell 12 (x0 :: x1 :: x2 :: aI v :: ls) (st) h = ex cal k_R_cell 13 (x0 :: x1 :: x2 :: aI v :: ls) (aI v :: st) h := ex_st cal (s := s_ild 3 13) rfl rfl
theorem u_R_cell_13 : ex cal k_R_cell 13 (ls) (aI i :: st) h = ex cal k_R_cell 14 (ls) (aL (wr i) :: st) h := ex_st cal (s := s_i2l 14) rfl rfl
theorem u_R_cell_14 : ex cal k_R_cell 14 (ls) (st) h = ex cal k_R_cell 17 (ls) (aL (-10000) :: st) h := e_push cal rfl
theorem u_R_cell_17 : ex cal k_R_cell 17 (ls) (st) h = ex cal k_R_cell 20 (ls) (aL 10000 :: st) h := e_push cal rfl
theorem u_R_cell_20 (hl : Nat.ble st.length 4 = true) : ex cal k_R_cell 20 (ls) (aL z2 :: aL z1 :: aL z0 :: st) h = kk cal k_R_cell 23 ls st (cal M_R_isIn [aL z0, aL z1, aL z2] h) := e_call cal (as := [aL z2, aL z1, aL z0]) rfl rfl (Nat.le_of_ble_eq_true hl)
theorem u_R_cell_23 : ex cal k_R_cell 23 (ls) (aI i :: st) h = if wr i = 0 then ex cal k_R_cell 26 (ls) (st) h else ex cal k_R_cell 32 (ls) (st) h := e_ifne cal rfl
theorem u_R_cell_26 : ex cal k_R_cell 26 (aQ r :: ls) (st) h = ex cal k_R_cell 27 (aQ r :: ls) (aQ r :: st) h := ex_st cal (s := s_ald 0 27) rfl rfl
theorem u_R_cell_27 : ex cal k_R_cell 27 (ls) (st) h = ex cal k_R_cell 28 (ls) (aI 1 :: st) h := e_push cal rfl
theorem u_R_cell_28 (hl : Nat.ble st.length 4 = true) : ex cal k_R_cell 28 (ls) (aI z0 :: aQ (some a) :: st) h = gO h a 10 (kk cal k_R_cell 31 ls st (cal M_R_refused [aQ (some a), aI z0] h)) := e_callV cal (ci := 10) (as := [aI z0]) rfl (by decide) rfl (Nat.le_of_ble_eq_true hl)
theorem u_R_cell_31 : ex cal k_R_cell 31 (ls) ([aI v]) h = some (some (aI v), h) := e_ret1 cal rfl
theorem u_R_cell_32 : ex cal k_R_cell 32 (aQ r :: ls) (st) h = ex cal k_R_cell 33 (aQ r :: ls) (aQ r :: st) h := ex_st cal (s := s_ald 0 33) rfl rfl
theorem u_R_cell_33 : ex cal k_R_cell 33 (ls) (aQ (some a) :: st) h = gO h a 10 (ex cal k_R_cell 36 (ls) (gf h a 29 :: st) h) := e_gf cal rfl
theorem u_R_cell_36 : ex cal k_R_cell 36 (x0 :: aI v :: ls) (st) h = ex cal k_R_cell 37 (x0 :: aI v :: ls) (aI v :: st) h := ex_st cal (s := s_ild 1 37) rfl rfl
theorem u_R_cell_37 : ex cal k_R_cell 37 (ls) (aI i :: aQ (some a) :: st) h = gA h a i (ex cal k_R_cell 38 (ls) (aI (ai h a (wr i)) :: st) h) := e_ia cal rfl
theorem u_R_cell_38 : ex cal k_R_cell 38 (ls) (aI i :: st) h = if wr i = 0 then ex cal k_R_cell 41 (ls) (st) h else ex cal k_R_cell 48 (ls) (st) h := e_ifne cal rfl
theorem u_R_cell_41 : ex cal k_R_cell 41 (aQ r :: ls) (st) h = ex cal k_R_cell 42 (aQ r :: ls) (aQ r :: st) h := ex_st cal (s := s_ald 0 42) rfl rfl
theorem u_R_cell_42 : ex cal k_R_cell 42 (ls) (st) h = ex cal k_R_cell 44 (ls) (aI 10 :: st) h := e_push cal rfl
theorem u_R_cell_44 (hl : Nat.ble st.length 4 = true) : ex cal k_R_cell 44 (ls) (aI z0 :: aQ (some a) :: st) h = gO h a 10 (kk cal k_R_cell 47 ls st (cal M_R_refused [aQ (some a), aI z0] h)) := e_callV cal (ci := 10) (as := [aI z0]) rfl (by decide) rfl (Nat.le_of_ble_eq_true hl)
theorem u_R_cell_47 : ex cal k_R_cell 47 (ls) ([aI v]) h = some (some (aI v), h) := e_ret1 cal rfl
theorem u_R_cell_48 : ex cal k_R_cell 48 (x0 :: x1 :: aI v :: ls) (st) h = ex cal k_R_cell 49 (x0 :: x1 :: aI v :: ls) (aI v :: st) h := ex_st cal (s := s_ild 2 49) rfl rfl
theorem u_R_cell_49 : ex cal k_R_cell 49 (ls) (aI i :: st) h = ex cal k_R_cell 50 (ls) (aL (wr i) :: st) h := ex_st cal (s := s_i2l 50) rfl rfl
theorem u_R_cell_50 : ex cal k_R_cell 50 (ls) (st) h = ex cal k_R_cell 51 (ls) (aL 0 :: st) h := e_push cal rfl
theorem u_R_cell_51 : ex cal k_R_cell 51 (aQ r :: ls) (st) h = ex cal k_R_cell 52 (aQ r :: ls) (aQ r :: st) h := ex_st cal (s := s_ald 0 52) rfl rfl
theorem u_R_cell_52 : ex cal k_R_cell 52 (ls) (aQ (some a) :: st) h = gO h a 10 (ex cal k_R_cell 55 (ls) (gf h a 30 :: st) h) := e_gf cal rfl
theorem u_R_cell_55 : ex cal k_R_cell 55 (x0 :: aI v :: ls) (st) h = ex cal k_R_cell 56 (x0 :: aI v :: ls) (aI v :: st) h := ex_st cal (s := s_ild 1 56) rfl rfl
theorem u_R_cell_56 : ex cal k_R_cell 56 (ls) (aI i :: aQ (some a) :: st) h = gA h a i (ex cal k_R_cell 57 (ls) (aI (ai h a (wr i)) :: st) h) := e_ia cal rfl
theorem u_R_cell_57 : ex cal k_R_cell 57 (ls) (st) h = ex cal k_R_cell 58 (ls) (aI 1 :: st) h := e_push cal rfl
theorem u_R_cell_58 : ex cal k_R_cell 58 (ls) (aI j :: aI i :: st) h = ex cal k_R_cell 59 (ls) (aI (i - j) :: st) h := e_bin cal rfl
theorem u_R_cell_59 : ex cal k_R_cell 59 (ls) (aI i :: st) h = ex cal k_R_cell 60 (ls) (aL (wr i) :: st) h := ex_st cal (s := s_i2l 60) rfl rfl
theorem u_R_cell_60 (hl : Nat.ble st.length 4 = true) : ex cal k_R_cell 60 (ls) (aL z2 :: aL z1 :: aL z0 :: st) h = kk cal k_R_cell 63 ls st (cal M_R_isIn [aL z0, aL z1, aL z2] h) := e_call cal (as := [aL z2, aL z1, aL z0]) rfl rfl (Nat.le_of_ble_eq_true hl)
theorem u_R_cell_63 : ex cal k_R_cell 63 (ls) (aI i :: st) h = if wr i = 0 then ex cal k_R_cell 66 (ls) (st) h else ex cal k_R_cell 73 (ls) (st) h := e_ifne cal rfl
theorem u_R_cell_66 : ex cal k_R_cell 66 (aQ r :: ls) (st) h = ex cal k_R_cell 67 (aQ r :: ls) (aQ r :: st) h := ex_st cal (s := s_ald 0 67) rfl rfl
theorem u_R_cell_67 : ex cal k_R_cell 67 (ls) (st) h = ex cal k_R_cell 69 (ls) (aI 12 :: st) h := e_push cal rfl
theorem u_R_cell_69 (hl : Nat.ble st.length 4 = true) : ex cal k_R_cell 69 (ls) (aI z0 :: aQ (some a) :: st) h = gO h a 10 (kk cal k_R_cell 72 ls st (cal M_R_refused [aQ (some a), aI z0] h)) := e_callV cal (ci := 10) (as := [aI z0]) rfl (by decide) rfl (Nat.le_of_ble_eq_true hl)
theorem u_R_cell_72 : ex cal k_R_cell 72 (ls) ([aI v]) h = some (some (aI v), h) := e_ret1 cal rfl
theorem u_R_cell_73 : ex cal k_R_cell 73 (aQ r :: ls) (st) h = ex cal k_R_cell 74 (aQ r :: ls) (aQ r :: st) h := ex_st cal (s := s_ald 0 74) rfl rfl
theorem u_R_cell_74 : ex cal k_R_cell 74 (ls) (aQ (some a) :: st) h = gO h a 10 (ex cal k_R_cell 77 (ls) (gf h a 31 :: st) h) := e_gf cal rfl
theorem u_R_cell_77 : ex cal k_R_cell 77 (ls) (st) h = ex cal k_R_cell 79 (ls) (aI 40 :: st) h := e_push cal rfl
theorem u_R_cell_79 : ex cal k_R_cell 79 (x0 :: aI v :: ls) (st) h = ex cal k_R_cell 80 (x0 :: aI v :: ls) (aI v :: st) h := ex_st cal (s := s_ild 1 80) rfl rfl
theorem u_R_cell_80 : ex cal k_R_cell 80 (ls) (aI j :: aI i :: st) h = ex cal k_R_cell 81 (ls) (aI (i * j) :: st) h := e_bin cal rfl
theorem u_R_cell_81 : ex cal k_R_cell 81 (x0 :: x1 :: aI v :: ls) (st) h = ex cal k_R_cell 82 (x0 :: x1 :: aI v :: ls) (aI v :: st) h := ex_st cal (s := s_ild 2 82) rfl rfl
theorem u_R_cell_82 : ex cal k_R_cell 82 (ls) (aI j :: aI i :: st) h = ex cal k_R_cell 83 (ls) (aI (i + j) :: st) h := e_bin cal rfl
theorem u_R_cell_83 : ex cal k_R_cell 83 (aQ r :: ls) (st) h = ex cal k_R_cell 84 (aQ r :: ls) (aQ r :: st) h := ex_st cal (s := s_ald 0 84) rfl rfl
theorem u_R_cell_84 : ex cal k_R_cell 84 (ls) (aQ (some a) :: st) h = gO h a 10 (ex cal k_R_cell 87 (ls) (gf h a 29 :: st) h) := e_gf cal rfl
theorem u_R_cell_87 : ex cal k_R_cell 87 (x0 :: aI v :: ls) (st) h = ex cal k_R_cell 88 (x0 :: aI v :: ls) (aI v :: st) h := ex_st cal (s := s_ild 1 88) rfl rfl
theorem u_R_cell_88 : ex cal k_R_cell 88 (ls) (aI i :: aQ (some a) :: st) h = gA h a i (ex cal k_R_cell 89 (ls) (aI (ai h a (wr i)) :: st) h) := e_ia cal rfl
theorem u_R_cell_89 : ex cal k_R_cell 89 (ls) (st) h = ex cal k_R_cell 90 (ls) (aI 1 :: st) h := e_push cal rfl
theorem u_R_cell_90 : ex cal k_R_cell 90 (ls) (aI j :: aI i :: st) h = if wr i = wr j then ex cal k_R_cell 93 (ls) (st) h else ex cal k_R_cell 100 (ls) (st) h := e_icne cal rfl
theorem u_R_cell_93 : ex cal k_R_cell 93 (x0 :: x1 :: x2 :: aI v :: ls) (st) h = ex cal k_R_cell 94 (x0 :: x1 :: x2 :: aI v :: ls) (aI v :: st) h := ex_st cal (s := s_ild 3 94) rfl rfl
theorem u_R_cell_94 (hl : Nat.ble st.length 4 = true) : ex cal k_R_cell 94 (ls) (aI z0 :: st) h = kk cal k_R_cell 97 ls st (cal M_R_byteOf [aI z0] h) := e_call cal (as := [aI z0]) rfl rfl (Nat.le_of_ble_eq_true hl)
theorem u_R_cell_97 : ex cal k_R_cell 97 (ls) (st) h = ex cal k_R_cell 101 (ls) (st) h := ex_st cal (s := s_go 101) rfl rfl
theorem u_R_cell_100 : ex cal k_R_cell 100 (x0 :: x1 :: x2 :: aI v :: ls) (st) h = ex cal k_R_cell 101 (x0 :: x1 :: x2 :: aI v :: ls) (aI v :: st) h := ex_st cal (s := s_ild 3 101) rfl rfl
theorem u_R_cell_101 (h3 : 3 ≤ a) : ex cal k_R_cell 101 (ls) (aI v :: aI i :: aQ (some a) :: st) h = gA h a i (ex cal k_R_cell 102 (ls) (st) (sa h a (upf (ai h a) (wr i) v))) := e_ias cal rfl h3
theorem u_R_cell_102 : ex cal k_R_cell 102 (aQ r :: ls) (st) h = ex cal k_R_cell 103 (aQ r :: ls) (aQ r :: st) h := ex_st cal (s := s_ald 0 103) rfl rfl
theorem u_R_cell_103 : ex cal k_R_cell 103 (ls) (st) h = ex cal k_R_cell 104 (ls) (aI 1 :: st) h := e_push cal rfl
theorem u_R_cell_104 (hl : Nat.ble st.length 4 = true) : ex cal k_R_cell 104 (ls) (aI z0 :: aQ (some a) :: st) h = gO h a 10 (kk cal k_R_cell 107 ls st (cal M_R_done [aQ (some a), aI z0] h)) := e_callV cal (ci := 10) (as := [aI z0]) rfl (by decide) rfl (Nat.le_of_ble_eq_true hl)
theorem u_R_cell_107 : ex cal k_R_cell 107 (ls) ([aI v]) h = some (some (aI v), h) := e_ret1 cal rfl
theorem n_R_cell (d : Nat) : ev (d + 1) M_R_cell [aQ (some a), aI z0, aI z1, aI z2] h = ex (ev d) k_R_cell 0 [aQ (some a), aI z0, aI z1, aI z2] [] h := rfl
theorem u_R_come_0 : ex cal k_R_come 0 (x0 :: aI v :: ls) (st) h = ex cal k_R_come 1 (x0 :: aI v :: ls) (aI v :: st) h := ex_st cal (s := s_ild 1 1) rfl rfl
theorem u_R_come_1 : ex cal k_R_come 1 (ls) (aI i :: st) h = ex cal k_R_come 2 (ls) (aL (wr i) :: st) h := ex_st cal (s := s_i2l 2) rfl rfl
theorem u_R_come_2 : ex cal k_R_come 2 (ls) (st) h = ex cal k_R_come 3 (ls) (aL 0 :: st) h := e_push cal rfl
theorem u_R_come_3 : ex cal k_R_come 3 (ls) (st) h = ex cal k_R_come 6 (ls) (aL 3 :: st) h := e_push cal rfl
theorem u_R_come_6 (hl : Nat.ble st.length 4 = true) : ex cal k_R_come 6 (ls) (aL z2 :: aL z1 :: aL z0 :: st) h = kk cal k_R_come 9 ls st (cal M_R_isIn [aL z0, aL z1, aL z2] h) := e_call cal (as := [aL z2, aL z1, aL z0]) rfl rfl (Nat.le_of_ble_eq_true hl)
theorem u_R_come_9 : ex cal k_R_come 9 (ls) (aI i :: st) h = if wr i = 0 then ex cal k_R_come 24 (ls) (st) h else ex cal k_R_come 12 (ls) (st) h := e_ifeq cal rfl
theorem u_R_come_12 : ex cal k_R_come 12 (x0 :: x1 :: aI v :: ls) (st) h = ex cal k_R_come 13 (x0 :: x1 :: aI v :: ls) (aI v :: st) h := ex_st cal (s := s_ild 2 13) rfl rfl
theorem u_R_come_13 : ex cal k_R_come 13 (ls) (aI i :: st) h = ex cal k_R_come 14 (ls) (aL (wr i) :: st) h := ex_st cal (s := s_i2l 14) rfl rfl
theorem u_R_come_14 : ex cal k_R_come 14 (ls) (st) h = ex cal k_R_come 15 (ls) (aL 0 :: st) h := e_push cal rfl
theorem u_R_come_15 : ex cal k_R_come 15 (ls) (st) h = ex cal k_R_come 18 (ls) (aL 2 :: st) h := e_push cal rfl
theorem u_R_come_18 (hl : Nat.ble st.length 4 = true) : ex cal k_R_come 18 (ls) (aL z2 :: aL z1 :: aL z0 :: st) h = kk cal k_R_come 21 ls st (cal M_R_isIn [aL z0, aL z1, aL z2] h) := e_call cal (as := [aL z2, aL z1, aL z0]) rfl rfl (Nat.le_of_ble_eq_true hl)
theorem u_R_come_21 : ex cal k_R_come 21 (ls) (aI i :: st) h = if wr i = 0 then ex cal k_R_come 24 (ls) (st) h else ex cal k_R_come 30 (ls) (st) h := e_ifne cal rfl
theorem u_R_come_24 : ex cal k_R_come 24 (aQ r :: ls) (st) h = ex cal k_R_come 25 (aQ r :: ls) (aQ r :: st) h := ex_st cal (s := s_ald 0 25) rfl rfl
theorem u_R_come_25 : ex cal k_R_come 25 (ls) (st) h = ex cal k_R_come 26 (ls) (aI 1 :: st) h := e_push cal rfl
theorem u_R_come_26 (hl : Nat.ble st.length 4 = true) : ex cal k_R_come 26 (ls) (aI z0 :: aQ (some a) :: st) h = gO h a 10 (kk cal k_R_come 29 ls st (cal M_R_refused [aQ (some a), aI z0] h)) := e_callV cal (ci := 10) (as := [aI z0]) rfl (by decide) rfl (Nat.le_of_ble_eq_true hl)
theorem u_R_come_29 : ex cal k_R_come 29 (ls) ([aI v]) h = some (some (aI v), h) := e_ret1 cal rfl
theorem u_R_come_30 : ex cal k_R_come 30 (aQ r :: ls) (st) h = ex cal k_R_come 31 (aQ r :: ls) (aQ r :: st) h := ex_st cal (s := s_ald 0 31) rfl rfl
theorem u_R_come_31 : ex cal k_R_come 31 (ls) (aQ (some a) :: st) h = gO h a 10 (ex cal k_R_come 34 (ls) (gf h a 29 :: st) h) := e_gf cal rfl
theorem u_R_come_34 : ex cal k_R_come 34 (x0 :: aI v :: ls) (st) h = ex cal k_R_come 35 (x0 :: aI v :: ls) (aI v :: st) h := ex_st cal (s := s_ild 1 35) rfl rfl
theorem u_R_come_35 : ex cal k_R_come 35 (ls) (aI i :: aQ (some a) :: st) h = gA h a i (ex cal k_R_come 36 (ls) (aI (ai h a (wr i)) :: st) h) := e_ia cal rfl
theorem u_R_come_36 : ex cal k_R_come 36 (ls) (aI i :: st) h = if wr i = 0 then ex cal k_R_come 39 (ls) (st) h else ex cal k_R_come 46 (ls) (st) h := e_ifne cal rfl
theorem u_R_come_39 : ex cal k_R_come 39 (aQ r :: ls) (st) h = ex cal k_R_come 40 (aQ r :: ls) (aQ r :: st) h := ex_st cal (s := s_ald 0 40) rfl rfl
theorem u_R_come_40 : ex cal k_R_come 40 (ls) (st) h = ex cal k_R_come 42 (ls) (aI 10 :: st) h := e_push cal rfl
theorem u_R_come_42 (hl : Nat.ble st.length 4 = true) : ex cal k_R_come 42 (ls) (aI z0 :: aQ (some a) :: st) h = gO h a 10 (kk cal k_R_come 45 ls st (cal M_R_refused [aQ (some a), aI z0] h)) := e_callV cal (ci := 10) (as := [aI z0]) rfl (by decide) rfl (Nat.le_of_ble_eq_true hl)
theorem u_R_come_45 : ex cal k_R_come 45 (ls) ([aI v]) h = some (some (aI v), h) := e_ret1 cal rfl
theorem u_R_come_46 : ex cal k_R_come 46 (aQ r :: ls) (st) h = ex cal k_R_come 47 (aQ r :: ls) (aQ r :: st) h := ex_st cal (s := s_ald 0 47) rfl rfl
theorem u_R_come_47 : ex cal k_R_come 47 (ls) (aQ (some a) :: st) h = gO h a 10 (ex cal k_R_come 50 (ls) (gf h a 29 :: st) h) := e_gf cal rfl
theorem u_R_come_50 : ex cal k_R_come 50 (x0 :: aI v :: ls) (st) h = ex cal k_R_come 51 (x0 :: aI v :: ls) (aI v :: st) h := ex_st cal (s := s_ild 1 51) rfl rfl
theorem u_R_come_51 : ex cal k_R_come 51 (ls) (aI i :: aQ (some a) :: st) h = gA h a i (ex cal k_R_come 52 (ls) (aI (ai h a (wr i)) :: st) h) := e_ia cal rfl
theorem u_R_come_52 : ex cal k_R_come 52 (x0 :: x1 :: aI v :: ls) (st) h = ex cal k_R_come 53 (x0 :: x1 :: aI v :: ls) (aI v :: st) h := ex_st cal (s := s_ild 2 53) rfl rfl
theorem u_R_come_53 : ex cal k_R_come 53 (ls) (st) h = ex cal k_R_come 54 (ls) (aI 1 :: st) h := e_push cal rfl
theorem u_R_come_54 : ex cal k_R_come 54 (ls) (aI j :: aI i :: st) h = ex cal k_R_come 55 (ls) (aI (i + j) :: st) h := e_bin cal rfl
theorem u_R_come_55 : ex cal k_R_come 55 (ls) (aI j :: aI i :: st) h = if wr i = wr j then ex cal k_R_come 65 (ls) (st) h else ex cal k_R_come 58 (ls) (st) h := e_iceq cal rfl
theorem u_R_come_58 : ex cal k_R_come 58 (aQ r :: ls) (st) h = ex cal k_R_come 59 (aQ r :: ls) (aQ r :: st) h := ex_st cal (s := s_ald 0 59) rfl rfl
theorem u_R_come_59 : ex cal k_R_come 59 (ls) (st) h = ex cal k_R_come 61 (ls) (aI 11 :: st) h := e_push cal rfl
theorem u_R_come_61 (hl : Nat.ble st.length 4 = true) : ex cal k_R_come 61 (ls) (aI z0 :: aQ (some a) :: st) h = gO h a 10 (kk cal k_R_come 64 ls st (cal M_R_refused [aQ (some a), aI z0] h)) := e_callV cal (ci := 10) (as := [aI z0]) rfl (by decide) rfl (Nat.le_of_ble_eq_true hl)
theorem u_R_come_64 : ex cal k_R_come 64 (ls) ([aI v]) h = some (some (aI v), h) := e_ret1 cal rfl
theorem u_R_come_65 : ex cal k_R_come 65 (aQ r :: ls) (st) h = ex cal k_R_come 66 (aQ r :: ls) (aQ r :: st) h := ex_st cal (s := s_ald 0 66) rfl rfl
theorem u_R_come_66 : ex cal k_R_come 66 (ls) (aQ (some a) :: st) h = gO h a 10 (ex cal k_R_come 69 (ls) (gf h a 30 :: st) h) := e_gf cal rfl
theorem u_R_come_69 : ex cal k_R_come 69 (x0 :: aI v :: ls) (st) h = ex cal k_R_come 70 (x0 :: aI v :: ls) (aI v :: st) h := ex_st cal (s := s_ild 1 70) rfl rfl
theorem u_R_come_70 : ex cal k_R_come 70 (ls) (aI i :: aQ (some a) :: st) h = gA h a i (ex cal k_R_come 71 (ls) (aI (ai h a (wr i)) :: st) h) := e_ia cal rfl
theorem u_R_come_71 (hx : aNl x2 = true) : ex cal k_R_come 71 (x0 :: x1 :: x2 :: y :: ls) (aI v :: st) h = ex cal k_R_come 72 (x0 :: x1 :: x2 :: aI v :: ls) (st) h := e_ist (ls := x0 :: x1 :: x2 :: y :: ls) (k := 3) rfl hx (by simp only [List.length_cons]; omega)
theorem u_R_come_72 : ex cal k_R_come 72 (x0 :: x1 :: x2 :: aI v :: ls) (st) h = ex cal k_R_come 73 (x0 :: x1 :: x2 :: aI v :: ls) (aI v :: st) h := ex_st cal (s := s_ild 3 73) rfl rfl
theorem u_R_come_73 : ex cal k_R_come 73 (ls) (st) h = ex cal k_R_come 75 (ls) (aI 20 :: st) h := e_push cal rfl
theorem u_R_come_75 : ex cal k_R_come 75 (ls) (aI j :: aI i :: st) h = if wr j < wr i then ex cal k_R_come 78 (ls) (st) h else ex cal k_R_come 84 (ls) (st) h := e_icle cal rfl
theorem u_R_come_78 : ex cal k_R_come 78 (aQ r :: ls) (st) h = ex cal k_R_come 79 (aQ r :: ls) (aQ r :: st) h := ex_st cal (s := s_ald 0 79) rfl rfl
theorem u_R_come_79 : ex cal k_R_come 79 (ls) (st) h = ex cal k_R_come 80 (ls) (aI 2 :: st) h := e_push cal rfl
theorem u_R_come_80 (hl : Nat.ble st.length 4 = true) : ex cal k_R_come 80 (ls) (aI z0 :: aQ (some a) :: st) h = gO h a 10 (kk cal k_R_come 83 ls st (cal M_R_refused [aQ (some a), aI z0] h)) := e_callV cal (ci := 10) (as := [aI z0]) rfl (by decide) rfl (Nat.le_of_ble_eq_true hl)
theorem u_R_come_83 : ex cal k_R_come 83 (ls) ([aI v]) h = some (some (aI v), h) := e_ret1 cal rfl
theorem u_R_come_84 : ex cal k_R_come 84 (ls) (st) h = ex cal k_R_come 85 (ls) (aI 0 :: st) h := e_push cal rfl
theorem u_R_come_85 (hx : aNl x3 = true) : ex cal k_R_come 85 (x0 :: x1 :: x2 :: x3 :: y :: ls) (aI v :: st) h = ex cal k_R_come 87 (x0 :: x1 :: x2 :: x3 :: aI v :: ls) (st) h := e_ist (ls := x0 :: x1 :: x2 :: x3 :: y :: ls) (k := 4) rfl hx (by simp only [List.length_cons]; omega)
theorem u_R_come_87 : ex cal k_R_come 87 (x0 :: x1 :: x2 :: x3 :: aI v :: ls) (st) h = ex cal k_R_come 89 (x0 :: x1 :: x2 :: x3 :: aI v :: ls) (aI v :: st) h := ex_st cal (s := s_ild 4 89) rfl rfl
theorem u_R_come_89 : ex cal k_R_come 89 (x0 :: x1 :: x2 :: aI v :: ls) (st) h = ex cal k_R_come 90 (x0 :: x1 :: x2 :: aI v :: ls) (aI v :: st) h := ex_st cal (s := s_ild 3 90) rfl rfl
theorem u_R_come_90 : ex cal k_R_come 90 (ls) (aI j :: aI i :: st) h = if wr i < wr j then ex cal k_R_come 93 (ls) (st) h else ex cal k_R_come 130 (ls) (st) h := e_icge cal rfl
theorem u_R_come_93 : ex cal k_R_come 93 (aQ r :: ls) (st) h = ex cal k_R_come 94 (aQ r :: ls) (aQ r :: st) h := ex_st cal (s := s_ald 0 94) rfl rfl
theorem u_R_come_94 : ex cal k_R_come 94 (ls) (aQ (some a) :: st) h = gO h a 10 (ex cal k_R_come 97 (ls) (gf h a 31 :: st) h) := e_gf cal rfl
theorem u_R_come_97 : ex cal k_R_come 97 (ls) (st) h = ex cal k_R_come 99 (ls) (aI 40 :: st) h := e_push cal rfl
theorem u_R_come_99 : ex cal k_R_come 99 (x0 :: aI v :: ls) (st) h = ex cal k_R_come 100 (x0 :: aI v :: ls) (aI v :: st) h := ex_st cal (s := s_ild 1 100) rfl rfl
theorem u_R_come_100 : ex cal k_R_come 100 (ls) (aI j :: aI i :: st) h = ex cal k_R_come 101 (ls) (aI (i * j) :: st) h := e_bin cal rfl
theorem u_R_come_101 : ex cal k_R_come 101 (x0 :: x1 :: x2 :: x3 :: aI v :: ls) (st) h = ex cal k_R_come 103 (x0 :: x1 :: x2 :: x3 :: aI v :: ls) (aI v :: st) h := ex_st cal (s := s_ild 4 103) rfl rfl
theorem u_R_come_103 : ex cal k_R_come 103 (ls) (aI j :: aI i :: st) h = ex cal k_R_come 104 (ls) (aI (i + j) :: st) h := e_bin cal rfl
theorem u_R_come_104 : ex cal k_R_come 104 (ls) (aI i :: aQ (some a) :: st) h = gA h a i (ex cal k_R_come 105 (ls) (aI (ai h a (wr i)) :: st) h) := e_ia cal rfl
theorem u_R_come_105 : ex cal k_R_come 105 (ls) (aI i :: st) h = ex cal k_R_come 106 (ls) (aL (wr i) :: st) h := ex_st cal (s := s_i2l 106) rfl rfl
theorem u_R_come_106 : ex cal k_R_come 106 (ls) (st) h = ex cal k_R_come 109 (ls) (aL 10 :: st) h := e_push cal rfl
theorem u_R_come_109 : ex cal k_R_come 109 (ls) (st) h = ex cal k_R_come 112 (ls) (aL 9999 :: st) h := e_push cal rfl
theorem u_R_come_112 (hl : Nat.ble st.length 4 = true) : ex cal k_R_come 112 (ls) (aL z2 :: aL z1 :: aL z0 :: st) h = kk cal k_R_come 115 ls st (cal M_R_isIn [aL z0, aL z1, aL z2] h) := e_call cal (as := [aL z2, aL z1, aL z0]) rfl rfl (Nat.le_of_ble_eq_true hl)
theorem u_R_come_115 : ex cal k_R_come 115 (ls) (aI i :: st) h = if wr i = 0 then ex cal k_R_come 118 (ls) (st) h else ex cal k_R_come 124 (ls) (st) h := e_ifne cal rfl
theorem u_R_come_118 : ex cal k_R_come 118 (aQ r :: ls) (st) h = ex cal k_R_come 119 (aQ r :: ls) (aQ r :: st) h := ex_st cal (s := s_ald 0 119) rfl rfl
theorem u_R_come_119 : ex cal k_R_come 119 (ls) (st) h = ex cal k_R_come 120 (ls) (aI 3 :: st) h := e_push cal rfl
theorem u_R_come_120 (hl : Nat.ble st.length 4 = true) : ex cal k_R_come 120 (ls) (aI z0 :: aQ (some a) :: st) h = gO h a 10 (kk cal k_R_come 123 ls st (cal M_R_refused [aQ (some a), aI z0] h)) := e_callV cal (ci := 10) (as := [aI z0]) rfl (by decide) rfl (Nat.le_of_ble_eq_true hl)
theorem u_R_come_123 : ex cal k_R_come 123 (ls) ([aI v]) h = some (some (aI v), h) := e_ret1 cal rfl
theorem u_R_come_124 (hx : aNl x3 = true) : ex cal k_R_come 124 (x0 :: x1 :: x2 :: x3 :: aI v :: ls) (st) h = ex cal k_R_come 127 (x0 :: x1 :: x2 :: x3 :: aI (v + 1) :: ls) (st) h := e_inc (ls := x0 :: x1 :: x2 :: x3 :: aI v :: ls) (k := 4) rfl rfl hx
theorem u_R_come_127 : ex cal k_R_come 127 (ls) (st) h = ex cal k_R_come 87 (ls) (st) h := ex_st cal (s := s_go 87) rfl rfl
theorem u_R_come_130 : ex cal k_R_come 130 (ls) (st) h = ex cal k_R_come 131 (ls) (aI 0 :: st) h := e_push cal rfl
theorem u_R_come_131 (hx : aNl x3 = true) : ex cal k_R_come 131 (x0 :: x1 :: x2 :: x3 :: y :: ls) (aI v :: st) h = ex cal k_R_come 133 (x0 :: x1 :: x2 :: x3 :: aI v :: ls) (st) h := e_ist (ls := x0 :: x1 :: x2 :: x3 :: y :: ls) (k := 4) rfl hx (by simp only [List.length_cons]; omega)
theorem u_R_come_133 : ex cal k_R_come 133 (x0 :: x1 :: x2 :: x3 :: aI v :: ls) (st) h = ex cal k_R_come 135 (x0 :: x1 :: x2 :: x3 :: aI v :: ls) (aI v :: st) h := ex_st cal (s := s_ild 4 135) rfl rfl
theorem u_R_come_135 : ex cal k_R_come 135 (x0 :: x1 :: x2 :: aI v :: ls) (st) h = ex cal k_R_come 136 (x0 :: x1 :: x2 :: aI v :: ls) (aI v :: st) h := ex_st cal (s := s_ild 3 136) rfl rfl
theorem u_R_come_136 : ex cal k_R_come 136 (ls) (aI j :: aI i :: st) h = if wr i < wr j then ex cal k_R_come 139 (ls) (st) h else ex cal k_R_come 164 (ls) (st) h := e_icge cal rfl
theorem u_R_come_139 : ex cal k_R_come 139 (aQ r :: ls) (st) h = ex cal k_R_come 140 (aQ r :: ls) (aQ r :: st) h := ex_st cal (s := s_ald 0 140) rfl rfl
theorem u_R_come_140 : ex cal k_R_come 140 (ls) (aQ (some a) :: st) h = gO h a 10 (ex cal k_R_come 143 (ls) (gf h a 13 :: st) h) := e_gf cal rfl
theorem u_R_come_143 : ex cal k_R_come 143 (x0 :: x1 :: x2 :: x3 :: aI v :: ls) (st) h = ex cal k_R_come 145 (x0 :: x1 :: x2 :: x3 :: aI v :: ls) (aI v :: st) h := ex_st cal (s := s_ild 4 145) rfl rfl
theorem u_R_come_145 : ex cal k_R_come 145 (aQ r :: ls) (st) h = ex cal k_R_come 146 (aQ r :: ls) (aQ r :: st) h := ex_st cal (s := s_ald 0 146) rfl rfl
theorem u_R_come_146 : ex cal k_R_come 146 (ls) (aQ (some a) :: st) h = gO h a 10 (ex cal k_R_come 149 (ls) (gf h a 31 :: st) h) := e_gf cal rfl
theorem u_R_come_149 : ex cal k_R_come 149 (ls) (st) h = ex cal k_R_come 151 (ls) (aI 40 :: st) h := e_push cal rfl
theorem u_R_come_151 : ex cal k_R_come 151 (x0 :: aI v :: ls) (st) h = ex cal k_R_come 152 (x0 :: aI v :: ls) (aI v :: st) h := ex_st cal (s := s_ild 1 152) rfl rfl
theorem u_R_come_152 : ex cal k_R_come 152 (ls) (aI j :: aI i :: st) h = ex cal k_R_come 153 (ls) (aI (i * j) :: st) h := e_bin cal rfl
theorem u_R_come_153 : ex cal k_R_come 153 (x0 :: x1 :: x2 :: x3 :: aI v :: ls) (st) h = ex cal k_R_come 155 (x0 :: x1 :: x2 :: x3 :: aI v :: ls) (aI v :: st) h := ex_st cal (s := s_ild 4 155) rfl rfl
theorem u_R_come_155 : ex cal k_R_come 155 (ls) (aI j :: aI i :: st) h = ex cal k_R_come 156 (ls) (aI (i + j) :: st) h := e_bin cal rfl
theorem u_R_come_156 : ex cal k_R_come 156 (ls) (aI i :: aQ (some a) :: st) h = gA h a i (ex cal k_R_come 157 (ls) (aI (ai h a (wr i)) :: st) h) := e_ia cal rfl
theorem u_R_come_157 (h3 : 3 ≤ a) : ex cal k_R_come 157 (ls) (aI v :: aI i :: aQ (some a) :: st) h = gA h a i (ex cal k_R_come 158 (ls) (st) (sa h a (upf (ai h a) (wr i) v))) := e_ias cal rfl h3
theorem u_R_come_158 (hx : aNl x3 = true) : ex cal k_R_come 158 (x0 :: x1 :: x2 :: x3 :: aI v :: ls) (st) h = ex cal k_R_come 161 (x0 :: x1 :: x2 :: x3 :: aI (v + 1) :: ls) (st) h := e_inc (ls := x0 :: x1 :: x2 :: x3 :: aI v :: ls) (k := 4) rfl rfl hx
theorem u_R_come_161 : ex cal k_R_come 161 (ls) (st) h = ex cal k_R_come 133 (ls) (st) h := ex_st cal (s := s_go 133) rfl rfl
theorem u_R_come_164 : ex cal k_R_come 164 (aQ r :: ls) (st) h = ex cal k_R_come 165 (aQ r :: ls) (aQ r :: st) h := ex_st cal (s := s_ald 0 165) rfl rfl
theorem u_R_come_165 : ex cal k_R_come 165 (ls) (aQ (some a) :: st) h = gO h a 10 (ex cal k_R_come 168 (ls) (gf h a 14 :: st) h) := e_gf cal rfl
theorem u_R_come_168 : ex cal k_R_come 168 (ls) (st) h = ex cal k_R_come 169 (ls) (aI 2 :: st) h := e_push cal rfl
theorem u_R_come_169 : ex cal k_R_come 169 (x0 :: x1 :: x2 :: aI v :: ls) (st) h = ex cal k_R_come 170 (x0 :: x1 :: x2 :: aI v :: ls) (aI v :: st) h := ex_st cal (s := s_ild 3 170) rfl rfl
theorem u_R_come_170 (h3 : 3 ≤ a) : ex cal k_R_come 170 (ls) (aI v :: aI i :: aQ (some a) :: st) h = gA h a i (ex cal k_R_come 171 (ls) (st) (sa h a (upf (ai h a) (wr i) v))) := e_ias cal rfl h3
theorem u_R_come_171 : ex cal k_R_come 171 (aQ r :: ls) (st) h = ex cal k_R_come 172 (aQ r :: ls) (aQ r :: st) h := ex_st cal (s := s_ald 0 172) rfl rfl
theorem u_R_come_172 : ex cal k_R_come 172 (x0 :: x1 :: x2 :: aI v :: ls) (st) h = ex cal k_R_come 173 (x0 :: x1 :: x2 :: aI v :: ls) (aI v :: st) h := ex_st cal (s := s_ild 3 173) rfl rfl
theorem u_R_come_173 (hl : Nat.ble st.length 4 = true) : ex cal k_R_come 173 (ls) (aI z0 :: aQ (some a) :: st) h = gO h a 10 (kk cal k_R_come 176 ls st (cal M_R_done [aQ (some a), aI z0] h)) := e_callV cal (ci := 10) (as := [aI z0]) rfl (by decide) rfl (Nat.le_of_ble_eq_true hl)
theorem u_R_come_176 : ex cal k_R_come 176 (ls) ([aI v]) h = some (some (aI v), h) := e_ret1 cal rfl
theorem n_R_come (d : Nat) : ev (d + 1) M_R_come [aQ (some a), aI z0, aI z1] h = ex (ev d) k_R_come 0 [aQ (some a), aI z0, aI z1, aU, aU] [] h := rfl
theorem u_R_modulo_0 : ex cal k_R_modulo 0 (aI v :: ls) (st) h = ex cal k_R_modulo 1 (aI v :: ls) (aI v :: st) h := ex_st cal (s := s_ild 0 1) rfl rfl
theorem u_R_modulo_1 : ex cal k_R_modulo 1 (x0 :: aI v :: ls) (st) h = ex cal k_R_modulo 2 (x0 :: aI v :: ls) (aI v :: st) h := ex_st cal (s := s_ild 1 2) rfl rfl
theorem u_R_modulo_2 (h0 : j ≠ 0) (h1 : -2147483648 ≤ j) (h2 : j < 2147483648) : ex cal k_R_modulo 2 (ls) (aI j :: aI i :: st) h = ex cal k_R_modulo 3 (ls) (aI ((wr i).tmod j) :: st) h := e_rem2 rfl h0 h1 h2
theorem u_R_modulo_3 : ex cal k_R_modulo 3 (x0 :: aI v :: ls) (st) h = ex cal k_R_modulo 4 (x0 :: aI v :: ls) (aI v :: st) h := ex_st cal (s := s_ild 1 4) rfl rfl
theorem u_R_modulo_4 : ex cal k_R_modulo 4 (ls) (aI j :: aI i :: st) h = ex cal k_R_modulo 5 (ls) (aI (i + j) :: st) h := e_bin cal rfl
theorem u_R_modulo_5 : ex cal k_R_modulo 5 (x0 :: aI v :: ls) (st) h = ex cal k_R_modulo 6 (x0 :: aI v :: ls) (aI v :: st) h := ex_st cal (s := s_ild 1 6) rfl rfl
theorem u_R_modulo_6 (h0 : j ≠ 0) (h1 : -2147483648 ≤ j) (h2 : j < 2147483648) : ex cal k_R_modulo 6 (ls) (aI j :: aI i :: st) h = ex cal k_R_modulo 7 (ls) (aI ((wr i).tmod j) :: st) h := e_rem2 rfl h0 h1 h2
theorem u_R_modulo_7 : ex cal k_R_modulo 7 (ls) ([aI v]) h = some (some (aI v), h) := e_ret1 cal rfl
theorem n_R_modulo (d : Nat) : ev (d + 1) M_R_modulo [aI z0, aI z1] h = ex (ev d) k_R_modulo 0 [aI z0, aI z1] [] h := rfl
theorem u_R_forge_0 : ex cal k_R_forge 0 (x0 :: aI v :: ls) (st) h = ex cal k_R_forge 1 (x0 :: aI v :: ls) (aI v :: st) h := ex_st cal (s := s_ild 1 1) rfl rfl
theorem u_R_forge_1 : ex cal k_R_forge 1 (ls) (aI i :: st) h = ex cal k_R_forge 2 (ls) (aL (wr i) :: st) h := ex_st cal (s := s_i2l 2) rfl rfl
theorem u_R_forge_2 : ex cal k_R_forge 2 (ls) (st) h = ex cal k_R_forge 3 (ls) (aL 0 :: st) h := e_push cal rfl
theorem u_R_forge_3 : ex cal k_R_forge 3 (ls) (st) h = ex cal k_R_forge 6 (ls) (aL 6 :: st) h := e_push cal rfl
theorem u_R_forge_6 (hl : Nat.ble st.length 4 = true) : ex cal k_R_forge 6 (ls) (aL z2 :: aL z1 :: aL z0 :: st) h = kk cal k_R_forge 9 ls st (cal M_R_isIn [aL z0, aL z1, aL z2] h) := e_call cal (as := [aL z2, aL z1, aL z0]) rfl rfl (Nat.le_of_ble_eq_true hl)
theorem u_R_forge_9 : ex cal k_R_forge 9 (ls) (aI i :: st) h = if wr i = 0 then ex cal k_R_forge 40 (ls) (st) h else ex cal k_R_forge 12 (ls) (st) h := e_ifeq cal rfl
theorem u_R_forge_12 : ex cal k_R_forge 12 (x0 :: x1 :: aI v :: ls) (st) h = ex cal k_R_forge 13 (x0 :: x1 :: aI v :: ls) (aI v :: st) h := ex_st cal (s := s_ild 2 13) rfl rfl
theorem u_R_forge_13 : ex cal k_R_forge 13 (ls) (aI i :: st) h = ex cal k_R_forge 14 (ls) (aL (wr i) :: st) h := ex_st cal (s := s_i2l 14) rfl rfl
theorem u_R_forge_14 : ex cal k_R_forge 14 (ls) (st) h = ex cal k_R_forge 17 (ls) (aL (-100) :: st) h := e_push cal rfl
theorem u_R_forge_17 : ex cal k_R_forge 17 (ls) (st) h = ex cal k_R_forge 20 (ls) (aL 100 :: st) h := e_push cal rfl
theorem u_R_forge_20 (hl : Nat.ble st.length 4 = true) : ex cal k_R_forge 20 (ls) (aL z2 :: aL z1 :: aL z0 :: st) h = kk cal k_R_forge 23 ls st (cal M_R_isIn [aL z0, aL z1, aL z2] h) := e_call cal (as := [aL z2, aL z1, aL z0]) rfl rfl (Nat.le_of_ble_eq_true hl)
theorem u_R_forge_23 : ex cal k_R_forge 23 (ls) (aI i :: st) h = if wr i = 0 then ex cal k_R_forge 40 (ls) (st) h else ex cal k_R_forge 26 (ls) (st) h := e_ifeq cal rfl
theorem u_R_forge_26 : ex cal k_R_forge 26 (x0 :: x1 :: x2 :: aI v :: ls) (st) h = ex cal k_R_forge 27 (x0 :: x1 :: x2 :: aI v :: ls) (aI v :: st) h := ex_st cal (s := s_ild 3 27) rfl rfl
theorem u_R_forge_27 : ex cal k_R_forge 27 (ls) (aI i :: st) h = ex cal k_R_forge 28 (ls) (aL (wr i) :: st) h := ex_st cal (s := s_i2l 28) rfl rfl
theorem u_R_forge_28 : ex cal k_R_forge 28 (ls) (st) h = ex cal k_R_forge 31 (ls) (aL (-100) :: st) h := e_push cal rfl
theorem u_R_forge_31 : ex cal k_R_forge 31 (ls) (st) h = ex cal k_R_forge 34 (ls) (aL 100 :: st) h := e_push cal rfl
theorem u_R_forge_34 (hl : Nat.ble st.length 4 = true) : ex cal k_R_forge 34 (ls) (aL z2 :: aL z1 :: aL z0 :: st) h = kk cal k_R_forge 37 ls st (cal M_R_isIn [aL z0, aL z1, aL z2] h) := e_call cal (as := [aL z2, aL z1, aL z0]) rfl rfl (Nat.le_of_ble_eq_true hl)
theorem u_R_forge_37 : ex cal k_R_forge 37 (ls) (aI i :: st) h = if wr i = 0 then ex cal k_R_forge 40 (ls) (st) h else ex cal k_R_forge 46 (ls) (st) h := e_ifne cal rfl
theorem u_R_forge_40 : ex cal k_R_forge 40 (aQ r :: ls) (st) h = ex cal k_R_forge 41 (aQ r :: ls) (aQ r :: st) h := ex_st cal (s := s_ald 0 41) rfl rfl
theorem u_R_forge_41 : ex cal k_R_forge 41 (ls) (st) h = ex cal k_R_forge 42 (ls) (aI 1 :: st) h := e_push cal rfl
theorem u_R_forge_42 (hl : Nat.ble st.length 4 = true) : ex cal k_R_forge 42 (ls) (aI z0 :: aQ (some a) :: st) h = gO h a 10 (kk cal k_R_forge 45 ls st (cal M_R_refused [aQ (some a), aI z0] h)) := e_callV cal (ci := 10) (as := [aI z0]) rfl (by decide) rfl (Nat.le_of_ble_eq_true hl)
theorem u_R_forge_45 : ex cal k_R_forge 45 (ls) ([aI v]) h = some (some (aI v), h) := e_ret1 cal rfl
theorem u_R_forge_46 : ex cal k_R_forge 46 (x0 :: x1 :: x2 :: aI v :: ls) (st) h = ex cal k_R_forge 47 (x0 :: x1 :: x2 :: aI v :: ls) (aI v :: st) h := ex_st cal (s := s_ild 3 47) rfl rfl
theorem u_R_forge_47 : ex cal k_R_forge 47 (ls) (st) h = ex cal k_R_forge 49 (ls) (aI 60 :: st) h := e_push cal rfl
theorem u_R_forge_49 (hl : Nat.ble st.length 4 = true) : ex cal k_R_forge 49 (ls) (aI z1 :: aI z0 :: st) h = kk cal k_R_forge 52 ls st (cal M_R_modulo [aI z0, aI z1] h) := e_call cal (as := [aI z1, aI z0]) rfl rfl (Nat.le_of_ble_eq_true hl)
theorem u_R_forge_52 (hx : aNl x3 = true) : ex cal k_R_forge 52 (x0 :: x1 :: x2 :: x3 :: y :: ls) (aI v :: st) h = ex cal k_R_forge 54 (x0 :: x1 :: x2 :: x3 :: aI v :: ls) (st) h := e_ist (ls := x0 :: x1 :: x2 :: x3 :: y :: ls) (k := 4) rfl hx (by simp only [List.length_cons]; omega)
theorem u_R_forge_54 : ex cal k_R_forge 54 (x0 :: x1 :: x2 :: aI v :: ls) (st) h = ex cal k_R_forge 55 (x0 :: x1 :: x2 :: aI v :: ls) (aI v :: st) h := ex_st cal (s := s_ild 3 55) rfl rfl
theorem u_R_forge_55 : ex cal k_R_forge 55 (ls) (st) h = ex cal k_R_forge 56 (ls) (aI 4 :: st) h := e_push cal rfl
theorem u_R_forge_56 (hl : Nat.ble st.length 4 = true) : ex cal k_R_forge 56 (ls) (aI z1 :: aI z0 :: st) h = kk cal k_R_forge 59 ls st (cal M_R_modulo [aI z0, aI z1] h) := e_call cal (as := [aI z1, aI z0]) rfl rfl (Nat.le_of_ble_eq_true hl)
theorem u_R_forge_59 (hx : aNl x4 = true) : ex cal k_R_forge 59 (x0 :: x1 :: x2 :: x3 :: x4 :: y :: ls) (aI v :: st) h = ex cal k_R_forge 61 (x0 :: x1 :: x2 :: x3 :: x4 :: aI v :: ls) (st) h := e_ist (ls := x0 :: x1 :: x2 :: x3 :: x4 :: y :: ls) (k := 5) rfl hx (by simp only [List.length_cons]; omega)
theorem u_R_forge_61 : ex cal k_R_forge 61 (x0 :: aI v :: ls) (st) h = ex cal k_R_forge 62 (x0 :: aI v :: ls) (aI v :: st) h := ex_st cal (s := s_ild 1 62) rfl rfl
theorem u_R_forge_62 : ex cal k_R_forge 62 (ls) (aI i :: st) h = ex cal k_R_forge (swt [(0, 100), (1, 191), (2, 210), (3, 290), (4, 298), (5, 356)] 379 (wr i)) ls st h := e_sw cal rfl
theorem u_R_forge_100 : ex cal k_R_forge 100 (x0 :: x1 :: aI v :: ls) (st) h = ex cal k_R_forge 101 (x0 :: x1 :: aI v :: ls) (aI v :: st) h := ex_st cal (s := s_ild 2 101) rfl rfl
theorem u_R_forge_101 : ex cal k_R_forge 101 (ls) (st) h = ex cal k_R_forge 103 (ls) (aI 6 :: st) h := e_push cal rfl
theorem u_R_forge_103 (hl : Nat.ble st.length 4 = true) : ex cal k_R_forge 103 (ls) (aI z1 :: aI z0 :: st) h = kk cal k_R_forge 106 ls st (cal M_R_modulo [aI z0, aI z1] h) := e_call cal (as := [aI z1, aI z0]) rfl rfl (Nat.le_of_ble_eq_true hl)
theorem u_R_forge_106 (hx : aNl x5 = true) : ex cal k_R_forge 106 (x0 :: x1 :: x2 :: x3 :: x4 :: x5 :: y :: ls) (aI v :: st) h = ex cal k_R_forge 108 (x0 :: x1 :: x2 :: x3 :: x4 :: x5 :: aI v :: ls) (st) h := e_ist (ls := x0 :: x1 :: x2 :: x3 :: x4 :: x5 :: y :: ls) (k := 6) rfl hx (by simp only [List.length_cons]; omega)
theorem u_R_forge_108 : ex cal k_R_forge 108 (aQ r :: ls) (st) h = ex cal k_R_forge 109 (aQ r :: ls) (aQ r :: st) h := ex_st cal (s := s_ald 0 109) rfl rfl
theorem u_R_forge_109 : ex cal k_R_forge 109 (x0 :: x1 :: x2 :: x3 :: aI v :: ls) (st) h = ex cal k_R_forge 111 (x0 :: x1 :: x2 :: x3 :: aI v :: ls) (aI v :: st) h := ex_st cal (s := s_ild 4 111) rfl rfl
theorem u_R_forge_111 (hl : Nat.ble st.length 4 = true) : ex cal k_R_forge 111 (ls) (aI z0 :: aQ (some a) :: st) h = gO h a 10 (kk cal k_R_forge 114 ls st (cal M_R_isChange [aQ (some a), aI z0] h)) := e_callV cal (ci := 10) (as := [aI z0]) rfl (by decide) rfl (Nat.le_of_ble_eq_true hl)
theorem u_R_forge_114 : ex cal k_R_forge 114 (ls) (aI i :: st) h = if wr i = 0 then ex cal k_R_forge 117 (ls) (st) h else ex cal k_R_forge 124 (ls) (st) h := e_ifne cal rfl
theorem u_R_forge_117 : ex cal k_R_forge 117 (aQ r :: ls) (st) h = ex cal k_R_forge 118 (aQ r :: ls) (aQ r :: st) h := ex_st cal (s := s_ald 0 118) rfl rfl
theorem u_R_forge_118 : ex cal k_R_forge 118 (ls) (st) h = ex cal k_R_forge 120 (ls) (aI 10 :: st) h := e_push cal rfl
theorem u_R_forge_120 (hl : Nat.ble st.length 4 = true) : ex cal k_R_forge 120 (ls) (aI z0 :: aQ (some a) :: st) h = gO h a 10 (kk cal k_R_forge 123 ls st (cal M_R_refused [aQ (some a), aI z0] h)) := e_callV cal (ci := 10) (as := [aI z0]) rfl (by decide) rfl (Nat.le_of_ble_eq_true hl)
theorem u_R_forge_123 : ex cal k_R_forge 123 (ls) ([aI v]) h = some (some (aI v), h) := e_ret1 cal rfl
theorem u_R_forge_124 : ex cal k_R_forge 124 (x0 :: x1 :: x2 :: x3 :: x4 :: x5 :: aI v :: ls) (st) h = ex cal k_R_forge 126 (x0 :: x1 :: x2 :: x3 :: x4 :: x5 :: aI v :: ls) (aI v :: st) h := ex_st cal (s := s_ild 6 126) rfl rfl
theorem u_R_forge_126 : ex cal k_R_forge 126 (ls) (aI i :: st) h = if wr i = 0 then ex cal k_R_forge 158 (ls) (st) h else ex cal k_R_forge 129 (ls) (st) h := e_ifeq cal rfl
theorem u_R_forge_129 : ex cal k_R_forge 129 (aQ r :: ls) (st) h = ex cal k_R_forge 130 (aQ r :: ls) (aQ r :: st) h := ex_st cal (s := s_ald 0 130) rfl rfl
theorem u_R_forge_130 : ex cal k_R_forge 130 (ls) (aQ (some a) :: st) h = gO h a 10 (ex cal k_R_forge 133 (ls) (gf h a 5 :: st) h) := e_gf cal rfl
theorem u_R_forge_133 : ex cal k_R_forge 133 (x0 :: x1 :: x2 :: x3 :: aI v :: ls) (st) h = ex cal k_R_forge 135 (x0 :: x1 :: x2 :: x3 :: aI v :: ls) (aI v :: st) h := ex_st cal (s := s_ild 4 135) rfl rfl
theorem u_R_forge_135 : ex cal k_R_forge 135 (ls) (aI i :: aQ (some a) :: st) h = gA h a i (ex cal k_R_forge 136 (ls) (aI (ai h a (wr i)) :: st) h) := e_ia cal rfl
theorem u_R_forge_136 : ex cal k_R_forge 136 (x0 :: x1 :: x2 :: x3 :: x4 :: x5 :: aI v :: ls) (st) h = ex cal k_R_forge 138 (x0 :: x1 :: x2 :: x3 :: x4 :: x5 :: aI v :: ls) (aI v :: st) h := ex_st cal (s := s_ild 6 138) rfl rfl
theorem u_R_forge_138 : ex cal k_R_forge 138 (ls) (aI j :: aI i :: st) h = if wr i = wr j then ex cal k_R_forge 158 (ls) (st) h else ex cal k_R_forge 141 (ls) (st) h := e_iceq cal rfl
theorem u_R_forge_141 : ex cal k_R_forge 141 (x0 :: x1 :: x2 :: x3 :: x4 :: x5 :: aI v :: ls) (st) h = ex cal k_R_forge 143 (x0 :: x1 :: x2 :: x3 :: x4 :: x5 :: aI v :: ls) (aI v :: st) h := ex_st cal (s := s_ild 6 143) rfl rfl
theorem u_R_forge_143 : ex cal k_R_forge 143 (ls) (st) h = ex cal k_R_forge 144 (ls) (aI 1 :: st) h := e_push cal rfl
theorem u_R_forge_144 : ex cal k_R_forge 144 (ls) (aI j :: aI i :: st) h = if wr i = wr j then ex cal k_R_forge 147 (ls) (st) h else ex cal k_R_forge 162 (ls) (st) h := e_icne cal rfl
theorem u_R_forge_147 : ex cal k_R_forge 147 (aQ r :: ls) (st) h = ex cal k_R_forge 148 (aQ r :: ls) (aQ r :: st) h := ex_st cal (s := s_ald 0 148) rfl rfl
theorem u_R_forge_148 : ex cal k_R_forge 148 (ls) (aQ (some a) :: st) h = gO h a 10 (ex cal k_R_forge 151 (ls) (gf h a 5 :: st) h) := e_gf cal rfl
theorem u_R_forge_151 : ex cal k_R_forge 151 (x0 :: x1 :: x2 :: x3 :: aI v :: ls) (st) h = ex cal k_R_forge 153 (x0 :: x1 :: x2 :: x3 :: aI v :: ls) (aI v :: st) h := ex_st cal (s := s_ild 4 153) rfl rfl
theorem u_R_forge_153 : ex cal k_R_forge 153 (ls) (aI i :: aQ (some a) :: st) h = gA h a i (ex cal k_R_forge 154 (ls) (aI (ai h a (wr i)) :: st) h) := e_ia cal rfl
theorem u_R_forge_154 : ex cal k_R_forge 154 (ls) (st) h = ex cal k_R_forge 155 (ls) (aI 5 :: st) h := e_push cal rfl
theorem u_R_forge_155 : ex cal k_R_forge 155 (ls) (aI j :: aI i :: st) h = if wr i = wr j then ex cal k_R_forge 158 (ls) (st) h else ex cal k_R_forge 162 (ls) (st) h := e_icne cal rfl
theorem u_R_forge_158 : ex cal k_R_forge 158 (ls) (st) h = ex cal k_R_forge 159 (ls) (aI 1 :: st) h := e_push cal rfl
theorem u_R_forge_159 : ex cal k_R_forge 159 (ls) (st) h = ex cal k_R_forge 163 (ls) (st) h := ex_st cal (s := s_go 163) rfl rfl
theorem u_R_forge_162 : ex cal k_R_forge 162 (ls) (st) h = ex cal k_R_forge 163 (ls) (aI 0 :: st) h := e_push cal rfl
theorem u_R_forge_163 (hx : aNl x6 = true) : ex cal k_R_forge 163 (x0 :: x1 :: x2 :: x3 :: x4 :: x5 :: x6 :: y :: ls) (aI v :: st) h = ex cal k_R_forge 165 (x0 :: x1 :: x2 :: x3 :: x4 :: x5 :: x6 :: aI v :: ls) (st) h := e_ist (ls := x0 :: x1 :: x2 :: x3 :: x4 :: x5 :: x6 :: y :: ls) (k := 7) rfl hx (by simp only [List.length_cons]; omega)
theorem u_R_forge_165 : ex cal k_R_forge 165 (x0 :: x1 :: x2 :: x3 :: x4 :: x5 :: x6 :: aI v :: ls) (st) h = ex cal k_R_forge 167 (x0 :: x1 :: x2 :: x3 :: x4 :: x5 :: x6 :: aI v :: ls) (aI v :: st) h := ex_st cal (s := s_ild 7 167) rfl rfl
theorem u_R_forge_167 : ex cal k_R_forge 167 (ls) (aI i :: st) h = if wr i = 0 then ex cal k_R_forge 184 (ls) (st) h else ex cal k_R_forge 170 (ls) (st) h := e_ifeq cal rfl
theorem u_R_forge_170 : ex cal k_R_forge 170 (aQ r :: ls) (st) h = ex cal k_R_forge 171 (aQ r :: ls) (aQ r :: st) h := ex_st cal (s := s_ald 0 171) rfl rfl
theorem u_R_forge_171 : ex cal k_R_forge 171 (aQ r :: ls) (st) h = ex cal k_R_forge 172 (aQ r :: ls) (aQ r :: st) h := ex_st cal (s := s_ald 0 172) rfl rfl
theorem u_R_forge_172 : ex cal k_R_forge 172 (ls) (aQ (some a) :: st) h = gO h a 10 (ex cal k_R_forge 175 (ls) (gf h a 5 :: st) h) := e_gf cal rfl
theorem u_R_forge_175 : ex cal k_R_forge 175 (x0 :: x1 :: x2 :: x3 :: aI v :: ls) (st) h = ex cal k_R_forge 177 (x0 :: x1 :: x2 :: x3 :: aI v :: ls) (aI v :: st) h := ex_st cal (s := s_ild 4 177) rfl rfl
theorem u_R_forge_177 : ex cal k_R_forge 177 (ls) (aI i :: aQ (some a) :: st) h = gA h a i (ex cal k_R_forge 178 (ls) (aI (ai h a (wr i)) :: st) h) := e_ia cal rfl
theorem u_R_forge_178 (hl : Nat.ble st.length 4 = true) : ex cal k_R_forge 178 (ls) (aI z0 :: aQ (some a) :: st) h = gO h a 10 (kk cal k_R_forge 181 ls st (cal M_R_done [aQ (some a), aI z0] h)) := e_callV cal (ci := 10) (as := [aI z0]) rfl (by decide) rfl (Nat.le_of_ble_eq_true hl)
theorem u_R_forge_181 : ex cal k_R_forge 181 (ls) (st) h = ex cal k_R_forge 190 (ls) (st) h := ex_st cal (s := s_go 190) rfl rfl
theorem u_R_forge_184 : ex cal k_R_forge 184 (aQ r :: ls) (st) h = ex cal k_R_forge 185 (aQ r :: ls) (aQ r :: st) h := ex_st cal (s := s_ald 0 185) rfl rfl
theorem u_R_forge_185 : ex cal k_R_forge 185 (ls) (st) h = ex cal k_R_forge 187 (ls) (aI 11 :: st) h := e_push cal rfl
theorem u_R_forge_187 (hl : Nat.ble st.length 4 = true) : ex cal k_R_forge 187 (ls) (aI z0 :: aQ (some a) :: st) h = gO h a 10 (kk cal k_R_forge 190 ls st (cal M_R_refused [aQ (some a), aI z0] h)) := e_callV cal (ci := 10) (as := [aI z0]) rfl (by decide) rfl (Nat.le_of_ble_eq_true hl)
theorem u_R_forge_190 : ex cal k_R_forge 190 (ls) ([aI v]) h = some (some (aI v), h) := e_ret1 cal rfl
theorem u_R_forge_191 : ex cal k_R_forge 191 (x0 :: x1 :: aI v :: ls) (st) h = ex cal k_R_forge 192 (x0 :: x1 :: aI v :: ls) (aI v :: st) h := ex_st cal (s := s_ild 2 192) rfl rfl
theorem u_R_forge_192 : ex cal k_R_forge 192 (ls) (aI i :: st) h = if wr i < 0 then ex cal k_R_forge 195 (ls) (st) h else ex cal k_R_forge 204 (ls) (st) h := e_ifge cal rfl
theorem u_R_forge_195 : ex cal k_R_forge 195 (aQ r :: ls) (st) h = ex cal k_R_forge 196 (aQ r :: ls) (aQ r :: st) h := ex_st cal (s := s_ald 0 196) rfl rfl
theorem u_R_forge_196 : ex cal k_R_forge 196 (ls) (st) h = ex cal k_R_forge 198 (ls) (aI 13 :: st) h := e_push cal rfl
theorem u_R_forge_198 (hl : Nat.ble st.length 4 = true) : ex cal k_R_forge 198 (ls) (aI z0 :: aQ (some a) :: st) h = gO h a 10 (kk cal k_R_forge 201 ls st (cal M_R_refused [aQ (some a), aI z0] h)) := e_callV cal (ci := 10) (as := [aI z0]) rfl (by decide) rfl (Nat.le_of_ble_eq_true hl)
theorem u_R_forge_201 : ex cal k_R_forge 201 (ls) (st) h = ex cal k_R_forge 209 (ls) (st) h := ex_st cal (s := s_go 209) rfl rfl
theorem u_R_forge_204 : ex cal k_R_forge 204 (aQ r :: ls) (st) h = ex cal k_R_forge 205 (aQ r :: ls) (aQ r :: st) h := ex_st cal (s := s_ald 0 205) rfl rfl
theorem u_R_forge_205 : ex cal k_R_forge 205 (x0 :: x1 :: aI v :: ls) (st) h = ex cal k_R_forge 206 (x0 :: x1 :: aI v :: ls) (aI v :: st) h := ex_st cal (s := s_ild 2 206) rfl rfl
theorem u_R_forge_206 (hl : Nat.ble st.length 4 = true) : ex cal k_R_forge 206 (ls) (aI z0 :: aQ (some a) :: st) h = gO h a 10 (kk cal k_R_forge 209 ls st (cal M_R_done [aQ (some a), aI z0] h)) := e_callV cal (ci := 10) (as := [aI z0]) rfl (by decide) rfl (Nat.le_of_ble_eq_true hl)
theorem u_R_forge_209 : ex cal k_R_forge 209 (ls) ([aI v]) h = some (some (aI v), h) := e_ret1 cal rfl
theorem u_R_forge_210 : ex cal k_R_forge 210 (aQ r :: ls) (st) h = ex cal k_R_forge 211 (aQ r :: ls) (aQ r :: st) h := ex_st cal (s := s_ald 0 211) rfl rfl
theorem u_R_forge_211 : ex cal k_R_forge 211 (ls) (aQ (some a) :: st) h = gO h a 10 (ex cal k_R_forge 214 (ls) (gf h a 29 :: st) h) := e_gf cal rfl
theorem u_R_forge_214 : ex cal k_R_forge 214 (x0 :: x1 :: x2 :: x3 :: x4 :: aI v :: ls) (st) h = ex cal k_R_forge 216 (x0 :: x1 :: x2 :: x3 :: x4 :: aI v :: ls) (aI v :: st) h := ex_st cal (s := s_ild 5 216) rfl rfl
theorem u_R_forge_216 : ex cal k_R_forge 216 (ls) (aI i :: aQ (some a) :: st) h = gA h a i (ex cal k_R_forge 217 (ls) (aI (ai h a (wr i)) :: st) h) := e_ia cal rfl
theorem u_R_forge_217 : ex cal k_R_forge 217 (ls) (aI i :: st) h = if wr i = 0 then ex cal k_R_forge 220 (ls) (st) h else ex cal k_R_forge 227 (ls) (st) h := e_ifne cal rfl
theorem u_R_forge_220 : ex cal k_R_forge 220 (aQ r :: ls) (st) h = ex cal k_R_forge 221 (aQ r :: ls) (aQ r :: st) h := ex_st cal (s := s_ald 0 221) rfl rfl
theorem u_R_forge_221 : ex cal k_R_forge 221 (ls) (st) h = ex cal k_R_forge 223 (ls) (aI 10 :: st) h := e_push cal rfl
theorem u_R_forge_223 (hl : Nat.ble st.length 4 = true) : ex cal k_R_forge 223 (ls) (aI z0 :: aQ (some a) :: st) h = gO h a 10 (kk cal k_R_forge 226 ls st (cal M_R_refused [aQ (some a), aI z0] h)) := e_callV cal (ci := 10) (as := [aI z0]) rfl (by decide) rfl (Nat.le_of_ble_eq_true hl)
theorem u_R_forge_226 : ex cal k_R_forge 226 (ls) ([aI v]) h = some (some (aI v), h) := e_ret1 cal rfl
theorem u_R_forge_227 : ex cal k_R_forge 227 (aQ r :: ls) (st) h = ex cal k_R_forge 228 (aQ r :: ls) (aQ r :: st) h := ex_st cal (s := s_ald 0 228) rfl rfl
theorem u_R_forge_228 : ex cal k_R_forge 228 (ls) (aQ (some a) :: st) h = gO h a 10 (ex cal k_R_forge 231 (ls) (gf h a 29 :: st) h) := e_gf cal rfl
theorem u_R_forge_231 : ex cal k_R_forge 231 (x0 :: x1 :: x2 :: x3 :: x4 :: aI v :: ls) (st) h = ex cal k_R_forge 233 (x0 :: x1 :: x2 :: x3 :: x4 :: aI v :: ls) (aI v :: st) h := ex_st cal (s := s_ild 5 233) rfl rfl
theorem u_R_forge_233 : ex cal k_R_forge 233 (ls) (aI i :: aQ (some a) :: st) h = gA h a i (ex cal k_R_forge 234 (ls) (aI (ai h a (wr i)) :: st) h) := e_ia cal rfl
theorem u_R_forge_234 : ex cal k_R_forge 234 (ls) (st) h = ex cal k_R_forge 235 (ls) (aI 2 :: st) h := e_push cal rfl
theorem u_R_forge_235 : ex cal k_R_forge 235 (ls) (aI j :: aI i :: st) h = if wr i = wr j then ex cal k_R_forge 245 (ls) (st) h else ex cal k_R_forge 238 (ls) (st) h := e_iceq cal rfl
theorem u_R_forge_238 : ex cal k_R_forge 238 (aQ r :: ls) (st) h = ex cal k_R_forge 239 (aQ r :: ls) (aQ r :: st) h := ex_st cal (s := s_ald 0 239) rfl rfl
theorem u_R_forge_239 : ex cal k_R_forge 239 (ls) (st) h = ex cal k_R_forge 241 (ls) (aI 11 :: st) h := e_push cal rfl
theorem u_R_forge_241 (hl : Nat.ble st.length 4 = true) : ex cal k_R_forge 241 (ls) (aI z0 :: aQ (some a) :: st) h = gO h a 10 (kk cal k_R_forge 244 ls st (cal M_R_refused [aQ (some a), aI z0] h)) := e_callV cal (ci := 10) (as := [aI z0]) rfl (by decide) rfl (Nat.le_of_ble_eq_true hl)
theorem u_R_forge_244 : ex cal k_R_forge 244 (ls) ([aI v]) h = some (some (aI v), h) := e_ret1 cal rfl
theorem u_R_forge_245 : ex cal k_R_forge 245 (x0 :: x1 :: aI v :: ls) (st) h = ex cal k_R_forge 246 (x0 :: x1 :: aI v :: ls) (aI v :: st) h := ex_st cal (s := s_ild 2 246) rfl rfl
theorem u_R_forge_246 : ex cal k_R_forge 246 (ls) (aI i :: st) h = ex cal k_R_forge 247 (ls) (aL (wr i) :: st) h := ex_st cal (s := s_i2l 247) rfl rfl
theorem u_R_forge_247 : ex cal k_R_forge 247 (ls) (st) h = ex cal k_R_forge 248 (ls) (aL 0 :: st) h := e_push cal rfl
theorem u_R_forge_248 : ex cal k_R_forge 248 (aQ r :: ls) (st) h = ex cal k_R_forge 249 (aQ r :: ls) (aQ r :: st) h := ex_st cal (s := s_ald 0 249) rfl rfl
theorem u_R_forge_249 : ex cal k_R_forge 249 (ls) (aQ (some a) :: st) h = gO h a 10 (ex cal k_R_forge 252 (ls) (gf h a 30 :: st) h) := e_gf cal rfl
theorem u_R_forge_252 : ex cal k_R_forge 252 (x0 :: x1 :: x2 :: x3 :: x4 :: aI v :: ls) (st) h = ex cal k_R_forge 254 (x0 :: x1 :: x2 :: x3 :: x4 :: aI v :: ls) (aI v :: st) h := ex_st cal (s := s_ild 5 254) rfl rfl
theorem u_R_forge_254 : ex cal k_R_forge 254 (ls) (aI i :: aQ (some a) :: st) h = gA h a i (ex cal k_R_forge 255 (ls) (aI (ai h a (wr i)) :: st) h) := e_ia cal rfl
theorem u_R_forge_255 : ex cal k_R_forge 255 (ls) (st) h = ex cal k_R_forge 256 (ls) (aI 1 :: st) h := e_push cal rfl
theorem u_R_forge_256 : ex cal k_R_forge 256 (ls) (aI j :: aI i :: st) h = ex cal k_R_forge 257 (ls) (aI (i - j) :: st) h := e_bin cal rfl
theorem u_R_forge_257 : ex cal k_R_forge 257 (ls) (aI i :: st) h = ex cal k_R_forge 258 (ls) (aL (wr i) :: st) h := ex_st cal (s := s_i2l 258) rfl rfl
theorem u_R_forge_258 (hl : Nat.ble st.length 4 = true) : ex cal k_R_forge 258 (ls) (aL z2 :: aL z1 :: aL z0 :: st) h = kk cal k_R_forge 261 ls st (cal M_R_isIn [aL z0, aL z1, aL z2] h) := e_call cal (as := [aL z2, aL z1, aL z0]) rfl rfl (Nat.le_of_ble_eq_true hl)
theorem u_R_forge_261 : ex cal k_R_forge 261 (ls) (aI i :: st) h = if wr i = 0 then ex cal k_R_forge 283 (ls) (st) h else ex cal k_R_forge 264 (ls) (st) h := e_ifeq cal rfl
theorem u_R_forge_264 : ex cal k_R_forge 264 (aQ r :: ls) (st) h = ex cal k_R_forge 265 (aQ r :: ls) (aQ r :: st) h := ex_st cal (s := s_ald 0 265) rfl rfl
theorem u_R_forge_265 : ex cal k_R_forge 265 (aQ r :: ls) (st) h = ex cal k_R_forge 266 (aQ r :: ls) (aQ r :: st) h := ex_st cal (s := s_ald 0 266) rfl rfl
theorem u_R_forge_266 : ex cal k_R_forge 266 (ls) (aQ (some a) :: st) h = gO h a 10 (ex cal k_R_forge 269 (ls) (gf h a 31 :: st) h) := e_gf cal rfl
theorem u_R_forge_269 : ex cal k_R_forge 269 (ls) (st) h = ex cal k_R_forge 271 (ls) (aI 40 :: st) h := e_push cal rfl
theorem u_R_forge_271 : ex cal k_R_forge 271 (x0 :: x1 :: x2 :: x3 :: x4 :: aI v :: ls) (st) h = ex cal k_R_forge 273 (x0 :: x1 :: x2 :: x3 :: x4 :: aI v :: ls) (aI v :: st) h := ex_st cal (s := s_ild 5 273) rfl rfl
theorem u_R_forge_273 : ex cal k_R_forge 273 (ls) (aI j :: aI i :: st) h = ex cal k_R_forge 274 (ls) (aI (i * j) :: st) h := e_bin cal rfl
theorem u_R_forge_274 : ex cal k_R_forge 274 (x0 :: x1 :: aI v :: ls) (st) h = ex cal k_R_forge 275 (x0 :: x1 :: aI v :: ls) (aI v :: st) h := ex_st cal (s := s_ild 2 275) rfl rfl
theorem u_R_forge_275 : ex cal k_R_forge 275 (ls) (aI j :: aI i :: st) h = ex cal k_R_forge 276 (ls) (aI (i + j) :: st) h := e_bin cal rfl
theorem u_R_forge_276 : ex cal k_R_forge 276 (ls) (aI i :: aQ (some a) :: st) h = gA h a i (ex cal k_R_forge 277 (ls) (aI (ai h a (wr i)) :: st) h) := e_ia cal rfl
theorem u_R_forge_277 (hl : Nat.ble st.length 4 = true) : ex cal k_R_forge 277 (ls) (aI z0 :: aQ (some a) :: st) h = gO h a 10 (kk cal k_R_forge 280 ls st (cal M_R_done [aQ (some a), aI z0] h)) := e_callV cal (ci := 10) (as := [aI z0]) rfl (by decide) rfl (Nat.le_of_ble_eq_true hl)
theorem u_R_forge_280 : ex cal k_R_forge 280 (ls) (st) h = ex cal k_R_forge 289 (ls) (st) h := ex_st cal (s := s_go 289) rfl rfl
theorem u_R_forge_283 : ex cal k_R_forge 283 (aQ r :: ls) (st) h = ex cal k_R_forge 284 (aQ r :: ls) (aQ r :: st) h := ex_st cal (s := s_ald 0 284) rfl rfl
theorem u_R_forge_284 : ex cal k_R_forge 284 (ls) (st) h = ex cal k_R_forge 286 (ls) (aI 12 :: st) h := e_push cal rfl
theorem u_R_forge_286 (hl : Nat.ble st.length 4 = true) : ex cal k_R_forge 286 (ls) (aI z0 :: aQ (some a) :: st) h = gO h a 10 (kk cal k_R_forge 289 ls st (cal M_R_refused [aQ (some a), aI z0] h)) := e_callV cal (ci := 10) (as := [aI z0]) rfl (by decide) rfl (Nat.le_of_ble_eq_true hl)
theorem u_R_forge_289 : ex cal k_R_forge 289 (ls) ([aI v]) h = some (some (aI v), h) := e_ret1 cal rfl
theorem u_R_forge_290 : ex cal k_R_forge 290 (aQ r :: ls) (st) h = ex cal k_R_forge 291 (aQ r :: ls) (aQ r :: st) h := ex_st cal (s := s_ald 0 291) rfl rfl
theorem u_R_forge_291 : ex cal k_R_forge 291 (x0 :: x1 :: x2 :: x3 :: x4 :: aI v :: ls) (st) h = ex cal k_R_forge 293 (x0 :: x1 :: x2 :: x3 :: x4 :: aI v :: ls) (aI v :: st) h := ex_st cal (s := s_ild 5 293) rfl rfl
theorem u_R_forge_293 : ex cal k_R_forge 293 (x0 :: x1 :: aI v :: ls) (st) h = ex cal k_R_forge 294 (x0 :: x1 :: aI v :: ls) (aI v :: st) h := ex_st cal (s := s_ild 2 294) rfl rfl
theorem u_R_forge_294 (hl : Nat.ble st.length 4 = true) : ex cal k_R_forge 294 (ls) (aI z1 :: aI z0 :: aQ (some a) :: st) h = gO h a 10 (kk cal k_R_forge 297 ls st (cal M_R_copied [aQ (some a), aI z0, aI z1] h)) := e_callV cal (ci := 10) (as := [aI z1, aI z0]) rfl (by decide) rfl (Nat.le_of_ble_eq_true hl)
theorem u_R_forge_297 : ex cal k_R_forge 297 (ls) ([aI v]) h = some (some (aI v), h) := e_ret1 cal rfl
theorem u_R_forge_298 : ex cal k_R_forge 298 (aQ r :: ls) (st) h = ex cal k_R_forge 299 (aQ r :: ls) (aQ r :: st) h := ex_st cal (s := s_ald 0 299) rfl rfl
theorem u_R_forge_299 : ex cal k_R_forge 299 (x0 :: x1 :: x2 :: x3 :: aI v :: ls) (st) h = ex cal k_R_forge 301 (x0 :: x1 :: x2 :: x3 :: aI v :: ls) (aI v :: st) h := ex_st cal (s := s_ild 4 301) rfl rfl
theorem u_R_forge_301 (hl : Nat.ble st.length 4 = true) : ex cal k_R_forge 301 (ls) (aI z0 :: aQ (some a) :: st) h = gO h a 10 (kk cal k_R_forge 304 ls st (cal M_R_isChange [aQ (some a), aI z0] h)) := e_callV cal (ci := 10) (as := [aI z0]) rfl (by decide) rfl (Nat.le_of_ble_eq_true hl)
theorem u_R_forge_304 : ex cal k_R_forge 304 (ls) (aI i :: st) h = if wr i = 0 then ex cal k_R_forge 307 (ls) (st) h else ex cal k_R_forge 313 (ls) (st) h := e_ifne cal rfl
theorem u_R_forge_307 : ex cal k_R_forge 307 (aQ r :: ls) (st) h = ex cal k_R_forge 308 (aQ r :: ls) (aQ r :: st) h := ex_st cal (s := s_ald 0 308) rfl rfl
theorem u_R_forge_308 : ex cal k_R_forge 308 (ls) (st) h = ex cal k_R_forge 309 (ls) (aI 0 :: st) h := e_push cal rfl
theorem u_R_forge_309 (hl : Nat.ble st.length 4 = true) : ex cal k_R_forge 309 (ls) (aI z0 :: aQ (some a) :: st) h = gO h a 10 (kk cal k_R_forge 312 ls st (cal M_R_done [aQ (some a), aI z0] h)) := e_callV cal (ci := 10) (as := [aI z0]) rfl (by decide) rfl (Nat.le_of_ble_eq_true hl)
theorem u_R_forge_312 : ex cal k_R_forge 312 (ls) ([aI v]) h = some (some (aI v), h) := e_ret1 cal rfl
theorem u_R_forge_313 : ex cal k_R_forge 313 (aQ r :: ls) (st) h = ex cal k_R_forge 314 (aQ r :: ls) (aQ r :: st) h := ex_st cal (s := s_ald 0 314) rfl rfl
theorem u_R_forge_314 : ex cal k_R_forge 314 (ls) (aQ (some a) :: st) h = gO h a 10 (ex cal k_R_forge 317 (ls) (gf h a 5 :: st) h) := e_gf cal rfl
theorem u_R_forge_317 : ex cal k_R_forge 317 (x0 :: x1 :: x2 :: x3 :: aI v :: ls) (st) h = ex cal k_R_forge 319 (x0 :: x1 :: x2 :: x3 :: aI v :: ls) (aI v :: st) h := ex_st cal (s := s_ild 4 319) rfl rfl
theorem u_R_forge_319 : ex cal k_R_forge 319 (ls) (aI i :: aQ (some a) :: st) h = gA h a i (ex cal k_R_forge 320 (ls) (aI (ai h a (wr i)) :: st) h) := e_ia cal rfl
theorem u_R_forge_320 : ex cal k_R_forge 320 (ls) (st) h = ex cal k_R_forge 321 (ls) (aI 1 :: st) h := e_push cal rfl
theorem u_R_forge_321 : ex cal k_R_forge 321 (ls) (aI j :: aI i :: st) h = if wr i = wr j then ex cal k_R_forge 335 (ls) (st) h else ex cal k_R_forge 324 (ls) (st) h := e_iceq cal rfl
theorem u_R_forge_324 : ex cal k_R_forge 324 (aQ r :: ls) (st) h = ex cal k_R_forge 325 (aQ r :: ls) (aQ r :: st) h := ex_st cal (s := s_ald 0 325) rfl rfl
theorem u_R_forge_325 : ex cal k_R_forge 325 (ls) (aQ (some a) :: st) h = gO h a 10 (ex cal k_R_forge 328 (ls) (gf h a 5 :: st) h) := e_gf cal rfl
theorem u_R_forge_328 : ex cal k_R_forge 328 (x0 :: x1 :: x2 :: x3 :: aI v :: ls) (st) h = ex cal k_R_forge 330 (x0 :: x1 :: x2 :: x3 :: aI v :: ls) (aI v :: st) h := ex_st cal (s := s_ild 4 330) rfl rfl
theorem u_R_forge_330 : ex cal k_R_forge 330 (ls) (aI i :: aQ (some a) :: st) h = gA h a i (ex cal k_R_forge 331 (ls) (aI (ai h a (wr i)) :: st) h) := e_ia cal rfl
theorem u_R_forge_331 : ex cal k_R_forge 331 (ls) (st) h = ex cal k_R_forge 332 (ls) (aI 5 :: st) h := e_push cal rfl
theorem u_R_forge_332 : ex cal k_R_forge 332 (ls) (aI j :: aI i :: st) h = if wr i = wr j then ex cal k_R_forge 335 (ls) (st) h else ex cal k_R_forge 349 (ls) (st) h := e_icne cal rfl
theorem u_R_forge_335 : ex cal k_R_forge 335 (aQ r :: ls) (st) h = ex cal k_R_forge 336 (aQ r :: ls) (aQ r :: st) h := ex_st cal (s := s_ald 0 336) rfl rfl
theorem u_R_forge_336 : ex cal k_R_forge 336 (aQ r :: ls) (st) h = ex cal k_R_forge 337 (aQ r :: ls) (aQ r :: st) h := ex_st cal (s := s_ald 0 337) rfl rfl
theorem u_R_forge_337 : ex cal k_R_forge 337 (ls) (aQ (some a) :: st) h = gO h a 10 (ex cal k_R_forge 340 (ls) (gf h a 5 :: st) h) := e_gf cal rfl
theorem u_R_forge_340 : ex cal k_R_forge 340 (x0 :: x1 :: x2 :: x3 :: aI v :: ls) (st) h = ex cal k_R_forge 342 (x0 :: x1 :: x2 :: x3 :: aI v :: ls) (aI v :: st) h := ex_st cal (s := s_ild 4 342) rfl rfl
theorem u_R_forge_342 : ex cal k_R_forge 342 (ls) (aI i :: aQ (some a) :: st) h = gA h a i (ex cal k_R_forge 343 (ls) (aI (ai h a (wr i)) :: st) h) := e_ia cal rfl
theorem u_R_forge_343 (hl : Nat.ble st.length 4 = true) : ex cal k_R_forge 343 (ls) (aI z0 :: aQ (some a) :: st) h = gO h a 10 (kk cal k_R_forge 346 ls st (cal M_R_done [aQ (some a), aI z0] h)) := e_callV cal (ci := 10) (as := [aI z0]) rfl (by decide) rfl (Nat.le_of_ble_eq_true hl)
theorem u_R_forge_346 : ex cal k_R_forge 346 (ls) (st) h = ex cal k_R_forge 355 (ls) (st) h := ex_st cal (s := s_go 355) rfl rfl
theorem u_R_forge_349 : ex cal k_R_forge 349 (aQ r :: ls) (st) h = ex cal k_R_forge 350 (aQ r :: ls) (aQ r :: st) h := ex_st cal (s := s_ald 0 350) rfl rfl
theorem u_R_forge_350 : ex cal k_R_forge 350 (ls) (st) h = ex cal k_R_forge 352 (ls) (aI 14 :: st) h := e_push cal rfl
theorem u_R_forge_352 (hl : Nat.ble st.length 4 = true) : ex cal k_R_forge 352 (ls) (aI z0 :: aQ (some a) :: st) h = gO h a 10 (kk cal k_R_forge 355 ls st (cal M_R_refused [aQ (some a), aI z0] h)) := e_callV cal (ci := 10) (as := [aI z0]) rfl (by decide) rfl (Nat.le_of_ble_eq_true hl)
theorem u_R_forge_355 : ex cal k_R_forge 355 (ls) ([aI v]) h = some (some (aI v), h) := e_ret1 cal rfl
theorem u_R_forge_356 : ex cal k_R_forge 356 (x0 :: x1 :: aI v :: ls) (st) h = ex cal k_R_forge 357 (x0 :: x1 :: aI v :: ls) (aI v :: st) h := ex_st cal (s := s_ild 2 357) rfl rfl
theorem u_R_forge_357 : ex cal k_R_forge 357 (ls) (aI i :: st) h = if wr i = 0 then ex cal k_R_forge 360 (ls) (st) h else ex cal k_R_forge 369 (ls) (st) h := e_ifne cal rfl
theorem u_R_forge_360 : ex cal k_R_forge 360 (aQ r :: ls) (st) h = ex cal k_R_forge 361 (aQ r :: ls) (aQ r :: st) h := ex_st cal (s := s_ald 0 361) rfl rfl
theorem u_R_forge_361 : ex cal k_R_forge 361 (ls) (st) h = ex cal k_R_forge 363 (ls) (aI 15 :: st) h := e_push cal rfl
theorem u_R_forge_363 (hl : Nat.ble st.length 4 = true) : ex cal k_R_forge 363 (ls) (aI z0 :: aQ (some a) :: st) h = gO h a 10 (kk cal k_R_forge 366 ls st (cal M_R_refused [aQ (some a), aI z0] h)) := e_callV cal (ci := 10) (as := [aI z0]) rfl (by decide) rfl (Nat.le_of_ble_eq_true hl)
theorem u_R_forge_366 : ex cal k_R_forge 366 (ls) (st) h = ex cal k_R_forge 378 (ls) (st) h := ex_st cal (s := s_go 378) rfl rfl
theorem u_R_forge_369 : ex cal k_R_forge 369 (aQ r :: ls) (st) h = ex cal k_R_forge 370 (aQ r :: ls) (aQ r :: st) h := ex_st cal (s := s_ald 0 370) rfl rfl
theorem u_R_forge_370 : ex cal k_R_forge 370 (ls) (st) h = ex cal k_R_forge 373 (ls) (aI 1000 :: st) h := e_push cal rfl
theorem u_R_forge_373 : ex cal k_R_forge 373 (x0 :: x1 :: aI v :: ls) (st) h = ex cal k_R_forge 374 (x0 :: x1 :: aI v :: ls) (aI v :: st) h := ex_st cal (s := s_ild 2 374) rfl rfl
theorem u_R_forge_374 (h0 : j ≠ 0) (h1 : -2147483648 ≤ j) (h2 : j < 2147483648) : ex cal k_R_forge 374 (ls) (aI j :: aI i :: st) h = ex cal k_R_forge 375 (ls) (aI ((wr i).tdiv j) :: st) h := e_div2 rfl h0 h1 h2
theorem u_R_forge_375 (hl : Nat.ble st.length 4 = true) : ex cal k_R_forge 375 (ls) (aI z0 :: aQ (some a) :: st) h = gO h a 10 (kk cal k_R_forge 378 ls st (cal M_R_done [aQ (some a), aI z0] h)) := e_callV cal (ci := 10) (as := [aI z0]) rfl (by decide) rfl (Nat.le_of_ble_eq_true hl)
theorem u_R_forge_378 : ex cal k_R_forge 378 (ls) ([aI v]) h = some (some (aI v), h) := e_ret1 cal rfl
theorem u_R_forge_379 : ex cal k_R_forge 379 (x0 :: x1 :: aI v :: ls) (st) h = ex cal k_R_forge 380 (x0 :: x1 :: aI v :: ls) (aI v :: st) h := ex_st cal (s := s_ild 2 380) rfl rfl
theorem u_R_forge_380 : ex cal k_R_forge 380 (ls) (st) h = ex cal k_R_forge 381 (ls) (aI 2 :: st) h := e_push cal rfl
theorem u_R_forge_381 (hl : Nat.ble st.length 4 = true) : ex cal k_R_forge 381 (ls) (aI z1 :: aI z0 :: st) h = kk cal k_R_forge 384 ls st (cal M_R_modulo [aI z0, aI z1] h) := e_call cal (as := [aI z1, aI z0]) rfl rfl (Nat.le_of_ble_eq_true hl)
theorem u_R_forge_384 : ex cal k_R_forge 384 (ls) (aI i :: st) h = if wr i = 0 then ex cal k_R_forge 387 (ls) (st) h else ex cal k_R_forge 396 (ls) (st) h := e_ifne cal rfl
theorem u_R_forge_387 : ex cal k_R_forge 387 (aQ r :: ls) (st) h = ex cal k_R_forge 388 (aQ r :: ls) (aQ r :: st) h := ex_st cal (s := s_ald 0 388) rfl rfl
theorem u_R_forge_388 : ex cal k_R_forge 388 (ls) (st) h = ex cal k_R_forge 390 (ls) (aI 10 :: st) h := e_push cal rfl
theorem u_R_forge_390 (hl : Nat.ble st.length 4 = true) : ex cal k_R_forge 390 (ls) (aI z0 :: aQ (some a) :: st) h = gO h a 10 (kk cal k_R_forge 393 ls st (cal M_R_refused [aQ (some a), aI z0] h)) := e_callV cal (ci := 10) (as := [aI z0]) rfl (by decide) rfl (Nat.le_of_ble_eq_true hl)
theorem u_R_forge_393 : ex cal k_R_forge 393 (ls) (st) h = ex cal k_R_forge 401 (ls) (st) h := ex_st cal (s := s_go 401) rfl rfl
theorem u_R_forge_396 : ex cal k_R_forge 396 (aQ r :: ls) (st) h = ex cal k_R_forge 397 (aQ r :: ls) (aQ r :: st) h := ex_st cal (s := s_ald 0 397) rfl rfl
theorem u_R_forge_397 : ex cal k_R_forge 397 (ls) (st) h = ex cal k_R_forge 398 (ls) (aI 1 :: st) h := e_push cal rfl
theorem u_R_forge_398 (hl : Nat.ble st.length 4 = true) : ex cal k_R_forge 398 (ls) (aI z0 :: aQ (some a) :: st) h = gO h a 10 (kk cal k_R_forge 401 ls st (cal M_R_done [aQ (some a), aI z0] h)) := e_callV cal (ci := 10) (as := [aI z0]) rfl (by decide) rfl (Nat.le_of_ble_eq_true hl)
theorem u_R_forge_401 : ex cal k_R_forge 401 (ls) ([aI v]) h = some (some (aI v), h) := e_ret1 cal rfl
theorem n_R_forge (d : Nat) : ev (d + 1) M_R_forge [aQ (some a), aI z0, aI z1, aI z2] h = ex (ev d) k_R_forge 0 [aQ (some a), aI z0, aI z1, aI z2, aU, aU, aU, aU] [] h := rfl
theorem u_R_copied_0 : ex cal k_R_copied 0 (aQ r :: ls) (st) h = ex cal k_R_copied 1 (aQ r :: ls) (aQ r :: st) h := ex_st cal (s := s_ald 0 1) rfl rfl
theorem u_R_copied_1 : ex cal k_R_copied 1 (ls) (aQ (some a) :: st) h = gO h a 10 (ex cal k_R_copied 4 (ls) (gf h a 29 :: st) h) := e_gf cal rfl
theorem u_R_copied_4 : ex cal k_R_copied 4 (x0 :: aI v :: ls) (st) h = ex cal k_R_copied 5 (x0 :: aI v :: ls) (aI v :: st) h := ex_st cal (s := s_ild 1 5) rfl rfl
theorem u_R_copied_5 : ex cal k_R_copied 5 (ls) (aI i :: aQ (some a) :: st) h = gA h a i (ex cal k_R_copied 6 (ls) (aI (ai h a (wr i)) :: st) h) := e_ia cal rfl
theorem u_R_copied_6 : ex cal k_R_copied 6 (ls) (aI i :: st) h = if wr i = 0 then ex cal k_R_copied 9 (ls) (st) h else ex cal k_R_copied 16 (ls) (st) h := e_ifne cal rfl
theorem u_R_copied_9 : ex cal k_R_copied 9 (aQ r :: ls) (st) h = ex cal k_R_copied 10 (aQ r :: ls) (aQ r :: st) h := ex_st cal (s := s_ald 0 10) rfl rfl
theorem u_R_copied_10 : ex cal k_R_copied 10 (ls) (st) h = ex cal k_R_copied 12 (ls) (aI 10 :: st) h := e_push cal rfl
theorem u_R_copied_12 (hl : Nat.ble st.length 4 = true) : ex cal k_R_copied 12 (ls) (aI z0 :: aQ (some a) :: st) h = gO h a 10 (kk cal k_R_copied 15 ls st (cal M_R_refused [aQ (some a), aI z0] h)) := e_callV cal (ci := 10) (as := [aI z0]) rfl (by decide) rfl (Nat.le_of_ble_eq_true hl)
theorem u_R_copied_15 : ex cal k_R_copied 15 (ls) ([aI v]) h = some (some (aI v), h) := e_ret1 cal rfl
theorem u_R_copied_16 : ex cal k_R_copied 16 (aQ r :: ls) (st) h = ex cal k_R_copied 17 (aQ r :: ls) (aQ r :: st) h := ex_st cal (s := s_ald 0 17) rfl rfl
theorem u_R_copied_17 : ex cal k_R_copied 17 (ls) (aQ (some a) :: st) h = gO h a 10 (ex cal k_R_copied 20 (ls) (gf h a 29 :: st) h) := e_gf cal rfl
theorem u_R_copied_20 : ex cal k_R_copied 20 (x0 :: aI v :: ls) (st) h = ex cal k_R_copied 21 (x0 :: aI v :: ls) (aI v :: st) h := ex_st cal (s := s_ild 1 21) rfl rfl
theorem u_R_copied_21 : ex cal k_R_copied 21 (ls) (aI i :: aQ (some a) :: st) h = gA h a i (ex cal k_R_copied 22 (ls) (aI (ai h a (wr i)) :: st) h) := e_ia cal rfl
theorem u_R_copied_22 : ex cal k_R_copied 22 (ls) (st) h = ex cal k_R_copied 23 (ls) (aI 1 :: st) h := e_push cal rfl
theorem u_R_copied_23 : ex cal k_R_copied 23 (ls) (aI j :: aI i :: st) h = if wr i = wr j then ex cal k_R_copied 33 (ls) (st) h else ex cal k_R_copied 26 (ls) (st) h := e_iceq cal rfl
theorem u_R_copied_26 : ex cal k_R_copied 26 (aQ r :: ls) (st) h = ex cal k_R_copied 27 (aQ r :: ls) (aQ r :: st) h := ex_st cal (s := s_ald 0 27) rfl rfl
theorem u_R_copied_27 : ex cal k_R_copied 27 (ls) (st) h = ex cal k_R_copied 29 (ls) (aI 11 :: st) h := e_push cal rfl
theorem u_R_copied_29 (hl : Nat.ble st.length 4 = true) : ex cal k_R_copied 29 (ls) (aI z0 :: aQ (some a) :: st) h = gO h a 10 (kk cal k_R_copied 32 ls st (cal M_R_refused [aQ (some a), aI z0] h)) := e_callV cal (ci := 10) (as := [aI z0]) rfl (by decide) rfl (Nat.le_of_ble_eq_true hl)
theorem u_R_copied_32 : ex cal k_R_copied 32 (ls) ([aI v]) h = some (some (aI v), h) := e_ret1 cal rfl
theorem u_R_copied_33 : ex cal k_R_copied 33 (x0 :: x1 :: aI v :: ls) (st) h = ex cal k_R_copied 34 (x0 :: x1 :: aI v :: ls) (aI v :: st) h := ex_st cal (s := s_ild 2 34) rfl rfl
theorem u_R_copied_34 : ex cal k_R_copied 34 (ls) (aI i :: st) h = if wr i < 0 then ex cal k_R_copied 57 (ls) (st) h else ex cal k_R_copied 37 (ls) (st) h := e_iflt cal rfl
theorem u_R_copied_37 : ex cal k_R_copied 37 (x0 :: x1 :: aI v :: ls) (st) h = ex cal k_R_copied 38 (x0 :: x1 :: aI v :: ls) (aI v :: st) h := ex_st cal (s := s_ild 2 38) rfl rfl
theorem u_R_copied_38 : ex cal k_R_copied 38 (ls) (st) h = ex cal k_R_copied 39 (ls) (aI 1 :: st) h := e_push cal rfl
theorem u_R_copied_39 : ex cal k_R_copied 39 (ls) (aI j :: aI i :: st) h = ex cal k_R_copied 40 (ls) (aI (i + j) :: st) h := e_bin cal rfl
theorem u_R_copied_40 : ex cal k_R_copied 40 (aQ r :: ls) (st) h = ex cal k_R_copied 41 (aQ r :: ls) (aQ r :: st) h := ex_st cal (s := s_ald 0 41) rfl rfl
theorem u_R_copied_41 : ex cal k_R_copied 41 (ls) (aQ (some a) :: st) h = gO h a 10 (ex cal k_R_copied 44 (ls) (gf h a 30 :: st) h) := e_gf cal rfl
theorem u_R_copied_44 : ex cal k_R_copied 44 (x0 :: aI v :: ls) (st) h = ex cal k_R_copied 45 (x0 :: aI v :: ls) (aI v :: st) h := ex_st cal (s := s_ild 1 45) rfl rfl
theorem u_R_copied_45 : ex cal k_R_copied 45 (ls) (aI i :: aQ (some a) :: st) h = gA h a i (ex cal k_R_copied 46 (ls) (aI (ai h a (wr i)) :: st) h) := e_ia cal rfl
theorem u_R_copied_46 : ex cal k_R_copied 46 (ls) (aI j :: aI i :: st) h = if wr j < wr i then ex cal k_R_copied 57 (ls) (st) h else ex cal k_R_copied 49 (ls) (st) h := e_icgt cal rfl
theorem u_R_copied_49 : ex cal k_R_copied 49 (x0 :: x1 :: aI v :: ls) (st) h = ex cal k_R_copied 50 (x0 :: x1 :: aI v :: ls) (aI v :: st) h := ex_st cal (s := s_ild 2 50) rfl rfl
theorem u_R_copied_50 : ex cal k_R_copied 50 (x0 :: x1 :: aI v :: ls) (st) h = ex cal k_R_copied 51 (x0 :: x1 :: aI v :: ls) (aI v :: st) h := ex_st cal (s := s_ild 2 51) rfl rfl
theorem u_R_copied_51 : ex cal k_R_copied 51 (ls) (aI j :: aI i :: st) h = ex cal k_R_copied 52 (ls) (aI (i + j) :: st) h := e_bin cal rfl
theorem u_R_copied_52 : ex cal k_R_copied 52 (ls) (st) h = ex cal k_R_copied 54 (ls) (aI 6 :: st) h := e_push cal rfl
theorem u_R_copied_54 : ex cal k_R_copied 54 (ls) (aI j :: aI i :: st) h = if wr j < wr i then ex cal k_R_copied 57 (ls) (st) h else ex cal k_R_copied 64 (ls) (st) h := e_icle cal rfl
theorem u_R_copied_57 : ex cal k_R_copied 57 (aQ r :: ls) (st) h = ex cal k_R_copied 58 (aQ r :: ls) (aQ r :: st) h := ex_st cal (s := s_ald 0 58) rfl rfl
theorem u_R_copied_58 : ex cal k_R_copied 58 (ls) (st) h = ex cal k_R_copied 60 (ls) (aI 12 :: st) h := e_push cal rfl
theorem u_R_copied_60 (hl : Nat.ble st.length 4 = true) : ex cal k_R_copied 60 (ls) (aI z0 :: aQ (some a) :: st) h = gO h a 10 (kk cal k_R_copied 63 ls st (cal M_R_refused [aQ (some a), aI z0] h)) := e_callV cal (ci := 10) (as := [aI z0]) rfl (by decide) rfl (Nat.le_of_ble_eq_true hl)
theorem u_R_copied_63 : ex cal k_R_copied 63 (ls) ([aI v]) h = some (some (aI v), h) := e_ret1 cal rfl
theorem u_R_copied_64 : ex cal k_R_copied 64 (ls) (st) h = ex cal k_R_copied 65 (ls) (aI 0 :: st) h := e_push cal rfl
theorem u_R_copied_65 (hx : aNl x2 = true) : ex cal k_R_copied 65 (x0 :: x1 :: x2 :: y :: ls) (aI v :: st) h = ex cal k_R_copied 66 (x0 :: x1 :: x2 :: aI v :: ls) (st) h := e_ist (ls := x0 :: x1 :: x2 :: y :: ls) (k := 3) rfl hx (by simp only [List.length_cons]; omega)
theorem u_R_copied_66 : ex cal k_R_copied 66 (ls) (st) h = ex cal k_R_copied 67 (ls) (aI 1 :: st) h := e_push cal rfl
theorem u_R_copied_67 (hx : aNl x3 = true) : ex cal k_R_copied 67 (x0 :: x1 :: x2 :: x3 :: y :: ls) (aI v :: st) h = ex cal k_R_copied 69 (x0 :: x1 :: x2 :: x3 :: aI v :: ls) (st) h := e_ist (ls := x0 :: x1 :: x2 :: x3 :: y :: ls) (k := 4) rfl hx (by simp only [List.length_cons]; omega)
theorem u_R_copied_69 : ex cal k_R_copied 69 (x0 :: x1 :: x2 :: x3 :: aI v :: ls) (st) h = ex cal k_R_copied 71 (x0 :: x1 :: x2 :: x3 :: aI v :: ls) (aI v :: st) h := ex_st cal (s := s_ild 4 71) rfl rfl
theorem u_R_copied_71 : ex cal k_R_copied 71 (x0 :: x1 :: aI v :: ls) (st) h = ex cal k_R_copied 72 (x0 :: x1 :: aI v :: ls) (aI v :: st) h := ex_st cal (s := s_ild 2 72) rfl rfl
theorem u_R_copied_72 : ex cal k_R_copied 72 (ls) (aI j :: aI i :: st) h = if wr j < wr i then ex cal k_R_copied 96 (ls) (st) h else ex cal k_R_copied 75 (ls) (st) h := e_icgt cal rfl
theorem u_R_copied_75 : ex cal k_R_copied 75 (x0 :: x1 :: x2 :: aI v :: ls) (st) h = ex cal k_R_copied 76 (x0 :: x1 :: x2 :: aI v :: ls) (aI v :: st) h := ex_st cal (s := s_ild 3 76) rfl rfl
theorem u_R_copied_76 : ex cal k_R_copied 76 (aQ r :: ls) (st) h = ex cal k_R_copied 77 (aQ r :: ls) (aQ r :: st) h := ex_st cal (s := s_ald 0 77) rfl rfl
theorem u_R_copied_77 : ex cal k_R_copied 77 (ls) (aQ (some a) :: st) h = gO h a 10 (ex cal k_R_copied 80 (ls) (gf h a 31 :: st) h) := e_gf cal rfl
theorem u_R_copied_80 : ex cal k_R_copied 80 (ls) (st) h = ex cal k_R_copied 82 (ls) (aI 40 :: st) h := e_push cal rfl
theorem u_R_copied_82 : ex cal k_R_copied 82 (x0 :: aI v :: ls) (st) h = ex cal k_R_copied 83 (x0 :: aI v :: ls) (aI v :: st) h := ex_st cal (s := s_ild 1 83) rfl rfl
theorem u_R_copied_83 : ex cal k_R_copied 83 (ls) (aI j :: aI i :: st) h = ex cal k_R_copied 84 (ls) (aI (i * j) :: st) h := e_bin cal rfl
theorem u_R_copied_84 : ex cal k_R_copied 84 (x0 :: x1 :: x2 :: x3 :: aI v :: ls) (st) h = ex cal k_R_copied 86 (x0 :: x1 :: x2 :: x3 :: aI v :: ls) (aI v :: st) h := ex_st cal (s := s_ild 4 86) rfl rfl
theorem u_R_copied_86 : ex cal k_R_copied 86 (ls) (aI j :: aI i :: st) h = ex cal k_R_copied 87 (ls) (aI (i + j) :: st) h := e_bin cal rfl
theorem u_R_copied_87 : ex cal k_R_copied 87 (ls) (aI i :: aQ (some a) :: st) h = gA h a i (ex cal k_R_copied 88 (ls) (aI (ai h a (wr i)) :: st) h) := e_ia cal rfl
theorem u_R_copied_88 : ex cal k_R_copied 88 (ls) (aI j :: aI i :: st) h = ex cal k_R_copied 89 (ls) (aI (i + j) :: st) h := e_bin cal rfl
theorem u_R_copied_89 (hx : aNl x2 = true) : ex cal k_R_copied 89 (x0 :: x1 :: x2 :: y :: ls) (aI v :: st) h = ex cal k_R_copied 90 (x0 :: x1 :: x2 :: aI v :: ls) (st) h := e_ist (ls := x0 :: x1 :: x2 :: y :: ls) (k := 3) rfl hx (by simp only [List.length_cons]; omega)
theorem u_R_copied_90 (hx : aNl x3 = true) : ex cal k_R_copied 90 (x0 :: x1 :: x2 :: x3 :: aI v :: ls) (st) h = ex cal k_R_copied 93 (x0 :: x1 :: x2 :: x3 :: aI (v + 1) :: ls) (st) h := e_inc (ls := x0 :: x1 :: x2 :: x3 :: aI v :: ls) (k := 4) rfl rfl hx
theorem u_R_copied_93 : ex cal k_R_copied 93 (ls) (st) h = ex cal k_R_copied 69 (ls) (st) h := ex_st cal (s := s_go 69) rfl rfl
theorem u_R_copied_96 : ex cal k_R_copied 96 (aQ r :: ls) (st) h = ex cal k_R_copied 97 (aQ r :: ls) (aQ r :: st) h := ex_st cal (s := s_ald 0 97) rfl rfl
theorem u_R_copied_97 : ex cal k_R_copied 97 (x0 :: x1 :: x2 :: aI v :: ls) (st) h = ex cal k_R_copied 98 (x0 :: x1 :: x2 :: aI v :: ls) (aI v :: st) h := ex_st cal (s := s_ild 3 98) rfl rfl
theorem u_R_copied_98 (hl : Nat.ble st.length 4 = true) : ex cal k_R_copied 98 (ls) (aI z0 :: aQ (some a) :: st) h = gO h a 10 (kk cal k_R_copied 101 ls st (cal M_R_done [aQ (some a), aI z0] h)) := e_callV cal (ci := 10) (as := [aI z0]) rfl (by decide) rfl (Nat.le_of_ble_eq_true hl)
theorem u_R_copied_101 : ex cal k_R_copied 101 (ls) ([aI v]) h = some (some (aI v), h) := e_ret1 cal rfl
theorem n_R_copied (d : Nat) : ev (d + 1) M_R_copied [aQ (some a), aI z0, aI z1] h = ex (ev d) k_R_copied 0 [aQ (some a), aI z0, aI z1, aU, aU] [] h := rfl
theorem u_R_status_0 : ex cal k_R_status 0 (aQ r :: ls) (st) h = ex cal k_R_status 1 (aQ r :: ls) (aQ r :: st) h := ex_st cal (s := s_ald 0 1) rfl rfl
theorem u_R_status_1 : ex cal k_R_status 1 (ls) (aQ (some a) :: st) h = gO h a 10 (ex cal k_R_status 4 (ls) (gf h a 18 :: st) h) := e_gf cal rfl
theorem u_R_status_4 : ex cal k_R_status 4 (ls) ([aI v]) h = some (some (aI v), h) := e_ret1 cal rfl
theorem n_R_status (d : Nat) : ev (d + 1) M_R_status [aQ (some a)] h = ex (ev d) k_R_status 0 [aQ (some a)] [] h := rfl
end UU
