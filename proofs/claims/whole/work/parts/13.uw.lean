/-! what each instruction does, as an equation: printed by wip/whole/gen/gen.py -/
section UU
variable {cal : Nat → List aV → aH → aR} {ls st : List aV} {h : aH} {y y2 x0 x1 x2 x3 x4 x5 x6 x7 x8 x9 x10 x11 x12 x13 x14 x15 x16 x17 x18 x19 : aV} {a b : Nat} {i j c v z0 z1 z2 z3 z4 z5 z6 z7 : Int} {r r0 r1 r2 r3 r4 r5 r6 r7 : Option Nat}

theorem u_W_law_0 : ex cal k_W_law 0 (ls) (st) h = ex cal k_W_law 3 (ls) (aQ (some (aSz h)) :: st) (aNew h (.inl (9, aDf 9)) (aNf 9)) := e_new cal rfl
theorem u_W_law_3 (hx : aNl y = true) : ex cal k_W_law 3 (ls) (y :: st) h = ex cal k_W_law 4 (ls) (y :: y :: st) h := e_dup rfl hx
theorem u_W_law_4 (hl : Nat.ble st.length 4 = true) : ex cal k_W_law 4 (ls) (aQ (some a) :: st) h = kk cal k_W_law 7 ls st (cal M_C_init [aQ (some a)] h) := e_callI cal (as := []) rfl rfl (Nat.le_of_ble_eq_true hl)
theorem u_W_law_7 (hx : aNl x0 = true) : ex cal k_W_law 7 (x0 :: y :: ls) (aQ r :: st) h = ex cal k_W_law 8 (x0 :: aQ r :: ls) (st) h := e_ast (ls := x0 :: y :: ls) (k := 1) rfl hx (by simp only [List.length_cons]; omega)
theorem u_W_law_8 : ex cal k_W_law 8 (ls) (st) h = ex cal k_W_law 11 (ls) (aQ (some (aSz h)) :: st) (aNew h (.inl (10, aDf 10)) (aNf 10)) := e_new cal rfl
theorem u_W_law_11 (hx : aNl y = true) : ex cal k_W_law 11 (ls) (y :: st) h = ex cal k_W_law 12 (ls) (y :: y :: st) h := e_dup rfl hx
theorem u_W_law_12 (hl : Nat.ble st.length 4 = true) : ex cal k_W_law 12 (ls) (aQ (some a) :: st) h = kk cal k_W_law 15 ls st (cal M_R_init [aQ (some a)] h) := e_callI cal (as := []) rfl rfl (Nat.le_of_ble_eq_true hl)
theorem u_W_law_15 (hx : aNl x1 = true) : ex cal k_W_law 15 (x0 :: x1 :: y :: ls) (aQ r :: st) h = ex cal k_W_law 16 (x0 :: x1 :: aQ r :: ls) (st) h := e_ast (ls := x0 :: x1 :: y :: ls) (k := 2) rfl hx (by simp only [List.length_cons]; omega)
theorem u_W_law_16 : ex cal k_W_law 16 (ls) (st) h = ex cal k_W_law 17 (ls) (aI 0 :: st) h := e_push cal rfl
theorem u_W_law_17 (hx : aNl x2 = true) : ex cal k_W_law 17 (x0 :: x1 :: x2 :: y :: ls) (aI v :: st) h = ex cal k_W_law 18 (x0 :: x1 :: x2 :: aI v :: ls) (st) h := e_ist (ls := x0 :: x1 :: x2 :: y :: ls) (k := 3) rfl hx (by simp only [List.length_cons]; omega)
theorem u_W_law_18 : ex cal k_W_law 18 (x0 :: x1 :: x2 :: aI v :: ls) (st) h = ex cal k_W_law 19 (x0 :: x1 :: x2 :: aI v :: ls) (aI v :: st) h := ex_st cal (s := s_ild 3 19) rfl rfl
theorem u_W_law_19 : ex cal k_W_law 19 (aQ r :: ls) (st) h = ex cal k_W_law 20 (aQ r :: ls) (aQ r :: st) h := ex_st cal (s := s_ald 0 20) rfl rfl
theorem u_W_law_20 : ex cal k_W_law 20 (ls) (aQ (some a) :: st) h = gB (isAR h a) (ex cal k_W_law 21 (ls) (aI (al h a) :: st) h) := e_len cal rfl
theorem u_W_law_21 : ex cal k_W_law 21 (ls) (st) h = ex cal k_W_law 22 (ls) (aI 5 :: st) h := e_push cal rfl
theorem u_W_law_22 : ex cal k_W_law 22 (ls) (aI j :: aI i :: st) h = ex cal k_W_law 23 (ls) (aI (i - j) :: st) h := e_bin cal rfl
theorem u_W_law_23 : ex cal k_W_law 23 (ls) (aI j :: aI i :: st) h = if wr j < wr i then ex cal k_W_law 1147 (ls) (st) h else ex cal k_W_law 26 (ls) (st) h := e_icgt cal rfl
theorem u_W_law_26 : ex cal k_W_law 26 (aQ r :: ls) (st) h = ex cal k_W_law 27 (aQ r :: ls) (aQ r :: st) h := ex_st cal (s := s_ald 0 27) rfl rfl
theorem u_W_law_27 : ex cal k_W_law 27 (x0 :: x1 :: x2 :: aI v :: ls) (st) h = ex cal k_W_law 28 (x0 :: x1 :: x2 :: aI v :: ls) (aI v :: st) h := ex_st cal (s := s_ild 3 28) rfl rfl
theorem u_W_law_28 : ex cal k_W_law 28 (ls) (aI i :: aQ (some a) :: st) h = gA h a i (ex cal k_W_law 29 (ls) (aI (ai h a (wr i)) :: st) h) := e_ia cal rfl
theorem u_W_law_29 : ex cal k_W_law 29 (ls) (st) h = ex cal k_W_law 31 (ls) (aI 31 :: st) h := e_push cal rfl
theorem u_W_law_31 : ex cal k_W_law 31 (ls) (aI j :: aI i :: st) h = ex cal k_W_law 32 (ls) (aI (wand i j) :: st) h := e_bin cal rfl
theorem u_W_law_32 : ex cal k_W_law 32 (ls) (aI i :: st) h = ex cal k_W_law (swt [(0, 172), (1, 195), (2, 244), (3, 267), (4, 290), (5, 313), (6, 326), (7, 379), (8, 412), (9, 465), (10, 478), (11, 491), (12, 514), (13, 557), (14, 610), (15, 643), (16, 686), (17, 719), (18, 752), (19, 775), (20, 798), (21, 811), (22, 844), (23, 877), (24, 900), (25, 943), (26, 966), (27, 1009), (28, 1052), (29, 1085), (30, 1128)] 1141 (wr i)) ls st h := e_sw cal rfl
theorem u_W_law_172 : ex cal k_W_law 172 (x0 :: aQ r :: ls) (st) h = ex cal k_W_law 173 (x0 :: aQ r :: ls) (aQ r :: st) h := ex_st cal (s := s_ald 1 173) rfl rfl
theorem u_W_law_173 : ex cal k_W_law 173 (aQ r :: ls) (st) h = ex cal k_W_law 174 (aQ r :: ls) (aQ r :: st) h := ex_st cal (s := s_ald 0 174) rfl rfl
theorem u_W_law_174 : ex cal k_W_law 174 (x0 :: x1 :: x2 :: aI v :: ls) (st) h = ex cal k_W_law 175 (x0 :: x1 :: x2 :: aI v :: ls) (aI v :: st) h := ex_st cal (s := s_ild 3 175) rfl rfl
theorem u_W_law_175 : ex cal k_W_law 175 (ls) (st) h = ex cal k_W_law 176 (ls) (aI 1 :: st) h := e_push cal rfl
theorem u_W_law_176 : ex cal k_W_law 176 (ls) (aI j :: aI i :: st) h = ex cal k_W_law 177 (ls) (aI (i + j) :: st) h := e_bin cal rfl
theorem u_W_law_177 : ex cal k_W_law 177 (ls) (aI i :: aQ (some a) :: st) h = gA h a i (ex cal k_W_law 178 (ls) (aI (ai h a (wr i)) :: st) h) := e_ia cal rfl
theorem u_W_law_178 (hl : Nat.ble st.length 4 = true) : ex cal k_W_law 178 (ls) (aI z0 :: aQ (some a) :: st) h = gO h a 9 (kk cal k_W_law 181 ls st (cal M_C_person [aQ (some a), aI z0] h)) := e_callV cal (ci := 9) (as := [aI z0]) rfl (by decide) rfl (Nat.le_of_ble_eq_true hl)
theorem u_W_law_181 : ex cal k_W_law 181 (x0 :: x1 :: aQ r :: ls) (st) h = ex cal k_W_law 182 (x0 :: x1 :: aQ r :: ls) (aQ r :: st) h := ex_st cal (s := s_ald 2 182) rfl rfl
theorem u_W_law_182 : ex cal k_W_law 182 (aQ r :: ls) (st) h = ex cal k_W_law 183 (aQ r :: ls) (aQ r :: st) h := ex_st cal (s := s_ald 0 183) rfl rfl
theorem u_W_law_183 : ex cal k_W_law 183 (x0 :: x1 :: x2 :: aI v :: ls) (st) h = ex cal k_W_law 184 (x0 :: x1 :: x2 :: aI v :: ls) (aI v :: st) h := ex_st cal (s := s_ild 3 184) rfl rfl
theorem u_W_law_184 : ex cal k_W_law 184 (ls) (st) h = ex cal k_W_law 185 (ls) (aI 1 :: st) h := e_push cal rfl
theorem u_W_law_185 : ex cal k_W_law 185 (ls) (aI j :: aI i :: st) h = ex cal k_W_law 186 (ls) (aI (i + j) :: st) h := e_bin cal rfl
theorem u_W_law_186 : ex cal k_W_law 186 (ls) (aI i :: aQ (some a) :: st) h = gA h a i (ex cal k_W_law 187 (ls) (aI (ai h a (wr i)) :: st) h) := e_ia cal rfl
theorem u_W_law_187 (hl : Nat.ble st.length 4 = true) : ex cal k_W_law 187 (ls) (aI z0 :: aQ (some a) :: st) h = gO h a 10 (kk cal k_W_law 190 ls st (cal M_R_person [aQ (some a), aI z0] h)) := e_callV cal (ci := 10) (as := [aI z0]) rfl (by decide) rfl (Nat.le_of_ble_eq_true hl)
theorem u_W_law_190 : ex cal k_W_law 190 (ls) (aI j :: aI i :: st) h = if wr i = wr j then ex cal k_W_law 1141 (ls) (st) h else ex cal k_W_law 193 (ls) (st) h := e_iceq cal rfl
theorem u_W_law_193 : ex cal k_W_law 193 (ls) (st) h = ex cal k_W_law 194 (ls) (aI 0 :: st) h := e_push cal rfl
theorem u_W_law_194 (hv : v = 0 ∨ v = 1) : ex cal k_W_law 194 (ls) ([aI v]) h = some (some (aI v), h) := e_ret22 rfl hv
theorem u_W_law_195 : ex cal k_W_law 195 (x0 :: aQ r :: ls) (st) h = ex cal k_W_law 196 (x0 :: aQ r :: ls) (aQ r :: st) h := ex_st cal (s := s_ald 1 196) rfl rfl
theorem u_W_law_196 : ex cal k_W_law 196 (aQ r :: ls) (st) h = ex cal k_W_law 197 (aQ r :: ls) (aQ r :: st) h := ex_st cal (s := s_ald 0 197) rfl rfl
theorem u_W_law_197 : ex cal k_W_law 197 (x0 :: x1 :: x2 :: aI v :: ls) (st) h = ex cal k_W_law 198 (x0 :: x1 :: x2 :: aI v :: ls) (aI v :: st) h := ex_st cal (s := s_ild 3 198) rfl rfl
theorem u_W_law_198 : ex cal k_W_law 198 (ls) (st) h = ex cal k_W_law 199 (ls) (aI 1 :: st) h := e_push cal rfl
theorem u_W_law_199 : ex cal k_W_law 199 (ls) (aI j :: aI i :: st) h = ex cal k_W_law 200 (ls) (aI (i + j) :: st) h := e_bin cal rfl
theorem u_W_law_200 : ex cal k_W_law 200 (ls) (aI i :: aQ (some a) :: st) h = gA h a i (ex cal k_W_law 201 (ls) (aI (ai h a (wr i)) :: st) h) := e_ia cal rfl
theorem u_W_law_201 : ex cal k_W_law 201 (aQ r :: ls) (st) h = ex cal k_W_law 202 (aQ r :: ls) (aQ r :: st) h := ex_st cal (s := s_ald 0 202) rfl rfl
theorem u_W_law_202 : ex cal k_W_law 202 (x0 :: x1 :: x2 :: aI v :: ls) (st) h = ex cal k_W_law 203 (x0 :: x1 :: x2 :: aI v :: ls) (aI v :: st) h := ex_st cal (s := s_ild 3 203) rfl rfl
theorem u_W_law_203 : ex cal k_W_law 203 (ls) (st) h = ex cal k_W_law 204 (ls) (aI 2 :: st) h := e_push cal rfl
theorem u_W_law_204 : ex cal k_W_law 204 (ls) (aI j :: aI i :: st) h = ex cal k_W_law 205 (ls) (aI (i + j) :: st) h := e_bin cal rfl
theorem u_W_law_205 : ex cal k_W_law 205 (ls) (aI i :: aQ (some a) :: st) h = gA h a i (ex cal k_W_law 206 (ls) (aI (ai h a (wr i)) :: st) h) := e_ia cal rfl
theorem u_W_law_206 : ex cal k_W_law 206 (ls) (aI i :: st) h = if wr i = 0 then ex cal k_W_law 213 (ls) (st) h else ex cal k_W_law 209 (ls) (st) h := e_ifeq cal rfl
theorem u_W_law_209 : ex cal k_W_law 209 (ls) (st) h = ex cal k_W_law 210 (ls) (aI 1 :: st) h := e_push cal rfl
theorem u_W_law_210 : ex cal k_W_law 210 (ls) (st) h = ex cal k_W_law 214 (ls) (st) h := ex_st cal (s := s_go 214) rfl rfl
theorem u_W_law_213 : ex cal k_W_law 213 (ls) (st) h = ex cal k_W_law 214 (ls) (aI 0 :: st) h := e_push cal rfl
theorem u_W_law_214 (hl : Nat.ble st.length 4 = true) : ex cal k_W_law 214 (ls) (aI z1 :: aI z0 :: aQ (some a) :: st) h = gO h a 9 (kk cal k_W_law 217 ls st (cal M_C_here [aQ (some a), aI z0, aI z1] h)) := e_callV cal (ci := 9) (as := [aI z1, aI z0]) rfl (by decide) rfl (Nat.le_of_ble_eq_true hl)
theorem u_W_law_217 : ex cal k_W_law 217 (x0 :: x1 :: aQ r :: ls) (st) h = ex cal k_W_law 218 (x0 :: x1 :: aQ r :: ls) (aQ r :: st) h := ex_st cal (s := s_ald 2 218) rfl rfl
theorem u_W_law_218 : ex cal k_W_law 218 (aQ r :: ls) (st) h = ex cal k_W_law 219 (aQ r :: ls) (aQ r :: st) h := ex_st cal (s := s_ald 0 219) rfl rfl
theorem u_W_law_219 : ex cal k_W_law 219 (x0 :: x1 :: x2 :: aI v :: ls) (st) h = ex cal k_W_law 220 (x0 :: x1 :: x2 :: aI v :: ls) (aI v :: st) h := ex_st cal (s := s_ild 3 220) rfl rfl
theorem u_W_law_220 : ex cal k_W_law 220 (ls) (st) h = ex cal k_W_law 221 (ls) (aI 1 :: st) h := e_push cal rfl
theorem u_W_law_221 : ex cal k_W_law 221 (ls) (aI j :: aI i :: st) h = ex cal k_W_law 222 (ls) (aI (i + j) :: st) h := e_bin cal rfl
theorem u_W_law_222 : ex cal k_W_law 222 (ls) (aI i :: aQ (some a) :: st) h = gA h a i (ex cal k_W_law 223 (ls) (aI (ai h a (wr i)) :: st) h) := e_ia cal rfl
theorem u_W_law_223 : ex cal k_W_law 223 (aQ r :: ls) (st) h = ex cal k_W_law 224 (aQ r :: ls) (aQ r :: st) h := ex_st cal (s := s_ald 0 224) rfl rfl
theorem u_W_law_224 : ex cal k_W_law 224 (x0 :: x1 :: x2 :: aI v :: ls) (st) h = ex cal k_W_law 225 (x0 :: x1 :: x2 :: aI v :: ls) (aI v :: st) h := ex_st cal (s := s_ild 3 225) rfl rfl
theorem u_W_law_225 : ex cal k_W_law 225 (ls) (st) h = ex cal k_W_law 226 (ls) (aI 2 :: st) h := e_push cal rfl
theorem u_W_law_226 : ex cal k_W_law 226 (ls) (aI j :: aI i :: st) h = ex cal k_W_law 227 (ls) (aI (i + j) :: st) h := e_bin cal rfl
theorem u_W_law_227 : ex cal k_W_law 227 (ls) (aI i :: aQ (some a) :: st) h = gA h a i (ex cal k_W_law 228 (ls) (aI (ai h a (wr i)) :: st) h) := e_ia cal rfl
theorem u_W_law_228 : ex cal k_W_law 228 (ls) (aI i :: st) h = if wr i = 0 then ex cal k_W_law 235 (ls) (st) h else ex cal k_W_law 231 (ls) (st) h := e_ifeq cal rfl
theorem u_W_law_231 : ex cal k_W_law 231 (ls) (st) h = ex cal k_W_law 232 (ls) (aI 1 :: st) h := e_push cal rfl
theorem u_W_law_232 : ex cal k_W_law 232 (ls) (st) h = ex cal k_W_law 236 (ls) (st) h := ex_st cal (s := s_go 236) rfl rfl
theorem u_W_law_235 : ex cal k_W_law 235 (ls) (st) h = ex cal k_W_law 236 (ls) (aI 0 :: st) h := e_push cal rfl
theorem u_W_law_236 (hl : Nat.ble st.length 4 = true) : ex cal k_W_law 236 (ls) (aI z1 :: aI z0 :: aQ (some a) :: st) h = gO h a 10 (kk cal k_W_law 239 ls st (cal M_R_here [aQ (some a), aI z0, aI z1] h)) := e_callV cal (ci := 10) (as := [aI z1, aI z0]) rfl (by decide) rfl (Nat.le_of_ble_eq_true hl)
theorem u_W_law_239 : ex cal k_W_law 239 (ls) (aI j :: aI i :: st) h = if wr i = wr j then ex cal k_W_law 1141 (ls) (st) h else ex cal k_W_law 242 (ls) (st) h := e_iceq cal rfl
theorem u_W_law_242 : ex cal k_W_law 242 (ls) (st) h = ex cal k_W_law 243 (ls) (aI 0 :: st) h := e_push cal rfl
theorem u_W_law_243 (hv : v = 0 ∨ v = 1) : ex cal k_W_law 243 (ls) ([aI v]) h = some (some (aI v), h) := e_ret22 rfl hv
theorem u_W_law_244 : ex cal k_W_law 244 (x0 :: aQ r :: ls) (st) h = ex cal k_W_law 245 (x0 :: aQ r :: ls) (aQ r :: st) h := ex_st cal (s := s_ald 1 245) rfl rfl
theorem u_W_law_245 : ex cal k_W_law 245 (aQ r :: ls) (st) h = ex cal k_W_law 246 (aQ r :: ls) (aQ r :: st) h := ex_st cal (s := s_ald 0 246) rfl rfl
theorem u_W_law_246 : ex cal k_W_law 246 (x0 :: x1 :: x2 :: aI v :: ls) (st) h = ex cal k_W_law 247 (x0 :: x1 :: x2 :: aI v :: ls) (aI v :: st) h := ex_st cal (s := s_ild 3 247) rfl rfl
theorem u_W_law_247 : ex cal k_W_law 247 (ls) (st) h = ex cal k_W_law 248 (ls) (aI 1 :: st) h := e_push cal rfl
theorem u_W_law_248 : ex cal k_W_law 248 (ls) (aI j :: aI i :: st) h = ex cal k_W_law 249 (ls) (aI (i + j) :: st) h := e_bin cal rfl
theorem u_W_law_249 : ex cal k_W_law 249 (ls) (aI i :: aQ (some a) :: st) h = gA h a i (ex cal k_W_law 250 (ls) (aI (ai h a (wr i)) :: st) h) := e_ia cal rfl
theorem u_W_law_250 (hl : Nat.ble st.length 4 = true) : ex cal k_W_law 250 (ls) (aI z0 :: aQ (some a) :: st) h = gO h a 9 (kk cal k_W_law 253 ls st (cal M_C_day [aQ (some a), aI z0] h)) := e_callV cal (ci := 9) (as := [aI z0]) rfl (by decide) rfl (Nat.le_of_ble_eq_true hl)
theorem u_W_law_253 : ex cal k_W_law 253 (x0 :: x1 :: aQ r :: ls) (st) h = ex cal k_W_law 254 (x0 :: x1 :: aQ r :: ls) (aQ r :: st) h := ex_st cal (s := s_ald 2 254) rfl rfl
theorem u_W_law_254 : ex cal k_W_law 254 (aQ r :: ls) (st) h = ex cal k_W_law 255 (aQ r :: ls) (aQ r :: st) h := ex_st cal (s := s_ald 0 255) rfl rfl
theorem u_W_law_255 : ex cal k_W_law 255 (x0 :: x1 :: x2 :: aI v :: ls) (st) h = ex cal k_W_law 256 (x0 :: x1 :: x2 :: aI v :: ls) (aI v :: st) h := ex_st cal (s := s_ild 3 256) rfl rfl
theorem u_W_law_256 : ex cal k_W_law 256 (ls) (st) h = ex cal k_W_law 257 (ls) (aI 1 :: st) h := e_push cal rfl
theorem u_W_law_257 : ex cal k_W_law 257 (ls) (aI j :: aI i :: st) h = ex cal k_W_law 258 (ls) (aI (i + j) :: st) h := e_bin cal rfl
theorem u_W_law_258 : ex cal k_W_law 258 (ls) (aI i :: aQ (some a) :: st) h = gA h a i (ex cal k_W_law 259 (ls) (aI (ai h a (wr i)) :: st) h) := e_ia cal rfl
theorem u_W_law_259 (hl : Nat.ble st.length 4 = true) : ex cal k_W_law 259 (ls) (aI z0 :: aQ (some a) :: st) h = gO h a 10 (kk cal k_W_law 262 ls st (cal M_R_day [aQ (some a), aI z0] h)) := e_callV cal (ci := 10) (as := [aI z0]) rfl (by decide) rfl (Nat.le_of_ble_eq_true hl)
theorem u_W_law_262 : ex cal k_W_law 262 (ls) (aI j :: aI i :: st) h = if wr i = wr j then ex cal k_W_law 1141 (ls) (st) h else ex cal k_W_law 265 (ls) (st) h := e_iceq cal rfl
theorem u_W_law_265 : ex cal k_W_law 265 (ls) (st) h = ex cal k_W_law 266 (ls) (aI 0 :: st) h := e_push cal rfl
theorem u_W_law_266 (hv : v = 0 ∨ v = 1) : ex cal k_W_law 266 (ls) ([aI v]) h = some (some (aI v), h) := e_ret22 rfl hv
theorem u_W_law_267 : ex cal k_W_law 267 (x0 :: aQ r :: ls) (st) h = ex cal k_W_law 268 (x0 :: aQ r :: ls) (aQ r :: st) h := ex_st cal (s := s_ald 1 268) rfl rfl
theorem u_W_law_268 : ex cal k_W_law 268 (aQ r :: ls) (st) h = ex cal k_W_law 269 (aQ r :: ls) (aQ r :: st) h := ex_st cal (s := s_ald 0 269) rfl rfl
theorem u_W_law_269 : ex cal k_W_law 269 (x0 :: x1 :: x2 :: aI v :: ls) (st) h = ex cal k_W_law 270 (x0 :: x1 :: x2 :: aI v :: ls) (aI v :: st) h := ex_st cal (s := s_ild 3 270) rfl rfl
theorem u_W_law_270 : ex cal k_W_law 270 (ls) (st) h = ex cal k_W_law 271 (ls) (aI 1 :: st) h := e_push cal rfl
theorem u_W_law_271 : ex cal k_W_law 271 (ls) (aI j :: aI i :: st) h = ex cal k_W_law 272 (ls) (aI (i + j) :: st) h := e_bin cal rfl
theorem u_W_law_272 : ex cal k_W_law 272 (ls) (aI i :: aQ (some a) :: st) h = gA h a i (ex cal k_W_law 273 (ls) (aI (ai h a (wr i)) :: st) h) := e_ia cal rfl
theorem u_W_law_273 (hl : Nat.ble st.length 4 = true) : ex cal k_W_law 273 (ls) (aI z0 :: aQ (some a) :: st) h = gO h a 9 (kk cal k_W_law 276 ls st (cal M_C_share [aQ (some a), aI z0] h)) := e_callV cal (ci := 9) (as := [aI z0]) rfl (by decide) rfl (Nat.le_of_ble_eq_true hl)
theorem u_W_law_276 : ex cal k_W_law 276 (x0 :: x1 :: aQ r :: ls) (st) h = ex cal k_W_law 277 (x0 :: x1 :: aQ r :: ls) (aQ r :: st) h := ex_st cal (s := s_ald 2 277) rfl rfl
theorem u_W_law_277 : ex cal k_W_law 277 (aQ r :: ls) (st) h = ex cal k_W_law 278 (aQ r :: ls) (aQ r :: st) h := ex_st cal (s := s_ald 0 278) rfl rfl
theorem u_W_law_278 : ex cal k_W_law 278 (x0 :: x1 :: x2 :: aI v :: ls) (st) h = ex cal k_W_law 279 (x0 :: x1 :: x2 :: aI v :: ls) (aI v :: st) h := ex_st cal (s := s_ild 3 279) rfl rfl
theorem u_W_law_279 : ex cal k_W_law 279 (ls) (st) h = ex cal k_W_law 280 (ls) (aI 1 :: st) h := e_push cal rfl
theorem u_W_law_280 : ex cal k_W_law 280 (ls) (aI j :: aI i :: st) h = ex cal k_W_law 281 (ls) (aI (i + j) :: st) h := e_bin cal rfl
theorem u_W_law_281 : ex cal k_W_law 281 (ls) (aI i :: aQ (some a) :: st) h = gA h a i (ex cal k_W_law 282 (ls) (aI (ai h a (wr i)) :: st) h) := e_ia cal rfl
theorem u_W_law_282 (hl : Nat.ble st.length 4 = true) : ex cal k_W_law 282 (ls) (aI z0 :: aQ (some a) :: st) h = gO h a 10 (kk cal k_W_law 285 ls st (cal M_R_share [aQ (some a), aI z0] h)) := e_callV cal (ci := 10) (as := [aI z0]) rfl (by decide) rfl (Nat.le_of_ble_eq_true hl)
theorem u_W_law_285 : ex cal k_W_law 285 (ls) (aI j :: aI i :: st) h = if wr i = wr j then ex cal k_W_law 1141 (ls) (st) h else ex cal k_W_law 288 (ls) (st) h := e_iceq cal rfl
theorem u_W_law_288 : ex cal k_W_law 288 (ls) (st) h = ex cal k_W_law 289 (ls) (aI 0 :: st) h := e_push cal rfl
theorem u_W_law_289 (hv : v = 0 ∨ v = 1) : ex cal k_W_law 289 (ls) ([aI v]) h = some (some (aI v), h) := e_ret22 rfl hv
theorem u_W_law_290 : ex cal k_W_law 290 (x0 :: aQ r :: ls) (st) h = ex cal k_W_law 291 (x0 :: aQ r :: ls) (aQ r :: st) h := ex_st cal (s := s_ald 1 291) rfl rfl
theorem u_W_law_291 : ex cal k_W_law 291 (aQ r :: ls) (st) h = ex cal k_W_law 292 (aQ r :: ls) (aQ r :: st) h := ex_st cal (s := s_ald 0 292) rfl rfl
theorem u_W_law_292 : ex cal k_W_law 292 (x0 :: x1 :: x2 :: aI v :: ls) (st) h = ex cal k_W_law 293 (x0 :: x1 :: x2 :: aI v :: ls) (aI v :: st) h := ex_st cal (s := s_ild 3 293) rfl rfl
theorem u_W_law_293 : ex cal k_W_law 293 (ls) (st) h = ex cal k_W_law 294 (ls) (aI 1 :: st) h := e_push cal rfl
theorem u_W_law_294 : ex cal k_W_law 294 (ls) (aI j :: aI i :: st) h = ex cal k_W_law 295 (ls) (aI (i + j) :: st) h := e_bin cal rfl
theorem u_W_law_295 : ex cal k_W_law 295 (ls) (aI i :: aQ (some a) :: st) h = gA h a i (ex cal k_W_law 296 (ls) (aI (ai h a (wr i)) :: st) h) := e_ia cal rfl
theorem u_W_law_296 (hl : Nat.ble st.length 4 = true) : ex cal k_W_law 296 (ls) (aI z0 :: aQ (some a) :: st) h = gO h a 9 (kk cal k_W_law 299 ls st (cal M_C_text [aQ (some a), aI z0] h)) := e_callV cal (ci := 9) (as := [aI z0]) rfl (by decide) rfl (Nat.le_of_ble_eq_true hl)
theorem u_W_law_299 : ex cal k_W_law 299 (x0 :: x1 :: aQ r :: ls) (st) h = ex cal k_W_law 300 (x0 :: x1 :: aQ r :: ls) (aQ r :: st) h := ex_st cal (s := s_ald 2 300) rfl rfl
theorem u_W_law_300 : ex cal k_W_law 300 (aQ r :: ls) (st) h = ex cal k_W_law 301 (aQ r :: ls) (aQ r :: st) h := ex_st cal (s := s_ald 0 301) rfl rfl
theorem u_W_law_301 : ex cal k_W_law 301 (x0 :: x1 :: x2 :: aI v :: ls) (st) h = ex cal k_W_law 302 (x0 :: x1 :: x2 :: aI v :: ls) (aI v :: st) h := ex_st cal (s := s_ild 3 302) rfl rfl
theorem u_W_law_302 : ex cal k_W_law 302 (ls) (st) h = ex cal k_W_law 303 (ls) (aI 1 :: st) h := e_push cal rfl
theorem u_W_law_303 : ex cal k_W_law 303 (ls) (aI j :: aI i :: st) h = ex cal k_W_law 304 (ls) (aI (i + j) :: st) h := e_bin cal rfl
theorem u_W_law_304 : ex cal k_W_law 304 (ls) (aI i :: aQ (some a) :: st) h = gA h a i (ex cal k_W_law 305 (ls) (aI (ai h a (wr i)) :: st) h) := e_ia cal rfl
theorem u_W_law_305 (hl : Nat.ble st.length 4 = true) : ex cal k_W_law 305 (ls) (aI z0 :: aQ (some a) :: st) h = gO h a 10 (kk cal k_W_law 308 ls st (cal M_R_text [aQ (some a), aI z0] h)) := e_callV cal (ci := 10) (as := [aI z0]) rfl (by decide) rfl (Nat.le_of_ble_eq_true hl)
theorem u_W_law_308 : ex cal k_W_law 308 (ls) (aI j :: aI i :: st) h = if wr i = wr j then ex cal k_W_law 1141 (ls) (st) h else ex cal k_W_law 311 (ls) (st) h := e_iceq cal rfl
theorem u_W_law_311 : ex cal k_W_law 311 (ls) (st) h = ex cal k_W_law 312 (ls) (aI 0 :: st) h := e_push cal rfl
theorem u_W_law_312 (hv : v = 0 ∨ v = 1) : ex cal k_W_law 312 (ls) ([aI v]) h = some (some (aI v), h) := e_ret22 rfl hv
theorem u_W_law_313 : ex cal k_W_law 313 (x0 :: aQ r :: ls) (st) h = ex cal k_W_law 314 (x0 :: aQ r :: ls) (aQ r :: st) h := ex_st cal (s := s_ald 1 314) rfl rfl
theorem u_W_law_314 (hl : Nat.ble st.length 4 = true) : ex cal k_W_law 314 (ls) (aQ (some a) :: st) h = gO h a 9 (kk cal k_W_law 317 ls st (cal M_C_wipe [aQ (some a)] h)) := e_callV cal (ci := 9) (as := []) rfl (by decide) rfl (Nat.le_of_ble_eq_true hl)
theorem u_W_law_317 : ex cal k_W_law 317 (x0 :: x1 :: aQ r :: ls) (st) h = ex cal k_W_law 318 (x0 :: x1 :: aQ r :: ls) (aQ r :: st) h := ex_st cal (s := s_ald 2 318) rfl rfl
theorem u_W_law_318 (hl : Nat.ble st.length 4 = true) : ex cal k_W_law 318 (ls) (aQ (some a) :: st) h = gO h a 10 (kk cal k_W_law 321 ls st (cal M_R_wipe [aQ (some a)] h)) := e_callV cal (ci := 10) (as := []) rfl (by decide) rfl (Nat.le_of_ble_eq_true hl)
theorem u_W_law_321 : ex cal k_W_law 321 (ls) (aI j :: aI i :: st) h = if wr i = wr j then ex cal k_W_law 1141 (ls) (st) h else ex cal k_W_law 324 (ls) (st) h := e_iceq cal rfl
theorem u_W_law_324 : ex cal k_W_law 324 (ls) (st) h = ex cal k_W_law 325 (ls) (aI 0 :: st) h := e_push cal rfl
theorem u_W_law_325 (hv : v = 0 ∨ v = 1) : ex cal k_W_law 325 (ls) ([aI v]) h = some (some (aI v), h) := e_ret22 rfl hv
theorem u_W_law_326 : ex cal k_W_law 326 (x0 :: aQ r :: ls) (st) h = ex cal k_W_law 327 (x0 :: aQ r :: ls) (aQ r :: st) h := ex_st cal (s := s_ald 1 327) rfl rfl
theorem u_W_law_327 : ex cal k_W_law 327 (aQ r :: ls) (st) h = ex cal k_W_law 328 (aQ r :: ls) (aQ r :: st) h := ex_st cal (s := s_ald 0 328) rfl rfl
theorem u_W_law_328 : ex cal k_W_law 328 (x0 :: x1 :: x2 :: aI v :: ls) (st) h = ex cal k_W_law 329 (x0 :: x1 :: x2 :: aI v :: ls) (aI v :: st) h := ex_st cal (s := s_ild 3 329) rfl rfl
theorem u_W_law_329 : ex cal k_W_law 329 (ls) (st) h = ex cal k_W_law 330 (ls) (aI 1 :: st) h := e_push cal rfl
theorem u_W_law_330 : ex cal k_W_law 330 (ls) (aI j :: aI i :: st) h = ex cal k_W_law 331 (ls) (aI (i + j) :: st) h := e_bin cal rfl
theorem u_W_law_331 : ex cal k_W_law 331 (ls) (aI i :: aQ (some a) :: st) h = gA h a i (ex cal k_W_law 332 (ls) (aI (ai h a (wr i)) :: st) h) := e_ia cal rfl
theorem u_W_law_332 : ex cal k_W_law 332 (aQ r :: ls) (st) h = ex cal k_W_law 333 (aQ r :: ls) (aQ r :: st) h := ex_st cal (s := s_ald 0 333) rfl rfl
theorem u_W_law_333 : ex cal k_W_law 333 (x0 :: x1 :: x2 :: aI v :: ls) (st) h = ex cal k_W_law 334 (x0 :: x1 :: x2 :: aI v :: ls) (aI v :: st) h := ex_st cal (s := s_ild 3 334) rfl rfl
theorem u_W_law_334 : ex cal k_W_law 334 (ls) (st) h = ex cal k_W_law 335 (ls) (aI 2 :: st) h := e_push cal rfl
theorem u_W_law_335 : ex cal k_W_law 335 (ls) (aI j :: aI i :: st) h = ex cal k_W_law 336 (ls) (aI (i + j) :: st) h := e_bin cal rfl
theorem u_W_law_336 : ex cal k_W_law 336 (ls) (aI i :: aQ (some a) :: st) h = gA h a i (ex cal k_W_law 337 (ls) (aI (ai h a (wr i)) :: st) h) := e_ia cal rfl
theorem u_W_law_337 : ex cal k_W_law 337 (aQ r :: ls) (st) h = ex cal k_W_law 338 (aQ r :: ls) (aQ r :: st) h := ex_st cal (s := s_ald 0 338) rfl rfl
theorem u_W_law_338 : ex cal k_W_law 338 (x0 :: x1 :: x2 :: aI v :: ls) (st) h = ex cal k_W_law 339 (x0 :: x1 :: x2 :: aI v :: ls) (aI v :: st) h := ex_st cal (s := s_ild 3 339) rfl rfl
theorem u_W_law_339 : ex cal k_W_law 339 (ls) (st) h = ex cal k_W_law 340 (ls) (aI 3 :: st) h := e_push cal rfl
theorem u_W_law_340 : ex cal k_W_law 340 (ls) (aI j :: aI i :: st) h = ex cal k_W_law 341 (ls) (aI (i + j) :: st) h := e_bin cal rfl
theorem u_W_law_341 : ex cal k_W_law 341 (ls) (aI i :: aQ (some a) :: st) h = gA h a i (ex cal k_W_law 342 (ls) (aI (ai h a (wr i)) :: st) h) := e_ia cal rfl
theorem u_W_law_342 : ex cal k_W_law 342 (aQ r :: ls) (st) h = ex cal k_W_law 343 (aQ r :: ls) (aQ r :: st) h := ex_st cal (s := s_ald 0 343) rfl rfl
theorem u_W_law_343 : ex cal k_W_law 343 (x0 :: x1 :: x2 :: aI v :: ls) (st) h = ex cal k_W_law 344 (x0 :: x1 :: x2 :: aI v :: ls) (aI v :: st) h := ex_st cal (s := s_ild 3 344) rfl rfl
theorem u_W_law_344 : ex cal k_W_law 344 (ls) (st) h = ex cal k_W_law 345 (ls) (aI 4 :: st) h := e_push cal rfl
theorem u_W_law_345 : ex cal k_W_law 345 (ls) (aI j :: aI i :: st) h = ex cal k_W_law 346 (ls) (aI (i + j) :: st) h := e_bin cal rfl
theorem u_W_law_346 : ex cal k_W_law 346 (ls) (aI i :: aQ (some a) :: st) h = gA h a i (ex cal k_W_law 347 (ls) (aI (ai h a (wr i)) :: st) h) := e_ia cal rfl
theorem u_W_law_347 (hl : Nat.ble st.length 4 = true) : ex cal k_W_law 347 (ls) (aI z3 :: aI z2 :: aI z1 :: aI z0 :: aQ (some a) :: st) h = gO h a 9 (kk cal k_W_law 350 ls st (cal M_C_change [aQ (some a), aI z0, aI z1, aI z2, aI z3] h)) := e_callV cal (ci := 9) (as := [aI z3, aI z2, aI z1, aI z0]) rfl (by decide) rfl (Nat.le_of_ble_eq_true hl)
theorem u_W_law_350 : ex cal k_W_law 350 (x0 :: x1 :: aQ r :: ls) (st) h = ex cal k_W_law 351 (x0 :: x1 :: aQ r :: ls) (aQ r :: st) h := ex_st cal (s := s_ald 2 351) rfl rfl
theorem u_W_law_351 : ex cal k_W_law 351 (aQ r :: ls) (st) h = ex cal k_W_law 352 (aQ r :: ls) (aQ r :: st) h := ex_st cal (s := s_ald 0 352) rfl rfl
theorem u_W_law_352 : ex cal k_W_law 352 (x0 :: x1 :: x2 :: aI v :: ls) (st) h = ex cal k_W_law 353 (x0 :: x1 :: x2 :: aI v :: ls) (aI v :: st) h := ex_st cal (s := s_ild 3 353) rfl rfl
theorem u_W_law_353 : ex cal k_W_law 353 (ls) (st) h = ex cal k_W_law 354 (ls) (aI 1 :: st) h := e_push cal rfl
theorem u_W_law_354 : ex cal k_W_law 354 (ls) (aI j :: aI i :: st) h = ex cal k_W_law 355 (ls) (aI (i + j) :: st) h := e_bin cal rfl
theorem u_W_law_355 : ex cal k_W_law 355 (ls) (aI i :: aQ (some a) :: st) h = gA h a i (ex cal k_W_law 356 (ls) (aI (ai h a (wr i)) :: st) h) := e_ia cal rfl
theorem u_W_law_356 : ex cal k_W_law 356 (aQ r :: ls) (st) h = ex cal k_W_law 357 (aQ r :: ls) (aQ r :: st) h := ex_st cal (s := s_ald 0 357) rfl rfl
theorem u_W_law_357 : ex cal k_W_law 357 (x0 :: x1 :: x2 :: aI v :: ls) (st) h = ex cal k_W_law 358 (x0 :: x1 :: x2 :: aI v :: ls) (aI v :: st) h := ex_st cal (s := s_ild 3 358) rfl rfl
theorem u_W_law_358 : ex cal k_W_law 358 (ls) (st) h = ex cal k_W_law 359 (ls) (aI 2 :: st) h := e_push cal rfl
theorem u_W_law_359 : ex cal k_W_law 359 (ls) (aI j :: aI i :: st) h = ex cal k_W_law 360 (ls) (aI (i + j) :: st) h := e_bin cal rfl
theorem u_W_law_360 : ex cal k_W_law 360 (ls) (aI i :: aQ (some a) :: st) h = gA h a i (ex cal k_W_law 361 (ls) (aI (ai h a (wr i)) :: st) h) := e_ia cal rfl
theorem u_W_law_361 : ex cal k_W_law 361 (aQ r :: ls) (st) h = ex cal k_W_law 362 (aQ r :: ls) (aQ r :: st) h := ex_st cal (s := s_ald 0 362) rfl rfl
theorem u_W_law_362 : ex cal k_W_law 362 (x0 :: x1 :: x2 :: aI v :: ls) (st) h = ex cal k_W_law 363 (x0 :: x1 :: x2 :: aI v :: ls) (aI v :: st) h := ex_st cal (s := s_ild 3 363) rfl rfl
theorem u_W_law_363 : ex cal k_W_law 363 (ls) (st) h = ex cal k_W_law 364 (ls) (aI 3 :: st) h := e_push cal rfl
theorem u_W_law_364 : ex cal k_W_law 364 (ls) (aI j :: aI i :: st) h = ex cal k_W_law 365 (ls) (aI (i + j) :: st) h := e_bin cal rfl
theorem u_W_law_365 : ex cal k_W_law 365 (ls) (aI i :: aQ (some a) :: st) h = gA h a i (ex cal k_W_law 366 (ls) (aI (ai h a (wr i)) :: st) h) := e_ia cal rfl
theorem u_W_law_366 : ex cal k_W_law 366 (aQ r :: ls) (st) h = ex cal k_W_law 367 (aQ r :: ls) (aQ r :: st) h := ex_st cal (s := s_ald 0 367) rfl rfl
theorem u_W_law_367 : ex cal k_W_law 367 (x0 :: x1 :: x2 :: aI v :: ls) (st) h = ex cal k_W_law 368 (x0 :: x1 :: x2 :: aI v :: ls) (aI v :: st) h := ex_st cal (s := s_ild 3 368) rfl rfl
theorem u_W_law_368 : ex cal k_W_law 368 (ls) (st) h = ex cal k_W_law 369 (ls) (aI 4 :: st) h := e_push cal rfl
theorem u_W_law_369 : ex cal k_W_law 369 (ls) (aI j :: aI i :: st) h = ex cal k_W_law 370 (ls) (aI (i + j) :: st) h := e_bin cal rfl
theorem u_W_law_370 : ex cal k_W_law 370 (ls) (aI i :: aQ (some a) :: st) h = gA h a i (ex cal k_W_law 371 (ls) (aI (ai h a (wr i)) :: st) h) := e_ia cal rfl
theorem u_W_law_371 (hl : Nat.ble st.length 4 = true) : ex cal k_W_law 371 (ls) (aI z3 :: aI z2 :: aI z1 :: aI z0 :: aQ (some a) :: st) h = gO h a 10 (kk cal k_W_law 374 ls st (cal M_R_change [aQ (some a), aI z0, aI z1, aI z2, aI z3] h)) := e_callV cal (ci := 10) (as := [aI z3, aI z2, aI z1, aI z0]) rfl (by decide) rfl (Nat.le_of_ble_eq_true hl)
theorem u_W_law_374 : ex cal k_W_law 374 (ls) (aI j :: aI i :: st) h = if wr i = wr j then ex cal k_W_law 1141 (ls) (st) h else ex cal k_W_law 377 (ls) (st) h := e_iceq cal rfl
theorem u_W_law_377 : ex cal k_W_law 377 (ls) (st) h = ex cal k_W_law 378 (ls) (aI 0 :: st) h := e_push cal rfl
theorem u_W_law_378 (hv : v = 0 ∨ v = 1) : ex cal k_W_law 378 (ls) ([aI v]) h = some (some (aI v), h) := e_ret22 rfl hv
theorem u_W_law_379 : ex cal k_W_law 379 (x0 :: aQ r :: ls) (st) h = ex cal k_W_law 380 (x0 :: aQ r :: ls) (aQ r :: st) h := ex_st cal (s := s_ald 1 380) rfl rfl
theorem u_W_law_380 : ex cal k_W_law 380 (aQ r :: ls) (st) h = ex cal k_W_law 381 (aQ r :: ls) (aQ r :: st) h := ex_st cal (s := s_ald 0 381) rfl rfl
theorem u_W_law_381 : ex cal k_W_law 381 (x0 :: x1 :: x2 :: aI v :: ls) (st) h = ex cal k_W_law 382 (x0 :: x1 :: x2 :: aI v :: ls) (aI v :: st) h := ex_st cal (s := s_ild 3 382) rfl rfl
theorem u_W_law_382 : ex cal k_W_law 382 (ls) (st) h = ex cal k_W_law 383 (ls) (aI 1 :: st) h := e_push cal rfl
theorem u_W_law_383 : ex cal k_W_law 383 (ls) (aI j :: aI i :: st) h = ex cal k_W_law 384 (ls) (aI (i + j) :: st) h := e_bin cal rfl
theorem u_W_law_384 : ex cal k_W_law 384 (ls) (aI i :: aQ (some a) :: st) h = gA h a i (ex cal k_W_law 385 (ls) (aI (ai h a (wr i)) :: st) h) := e_ia cal rfl
theorem u_W_law_385 : ex cal k_W_law 385 (aQ r :: ls) (st) h = ex cal k_W_law 386 (aQ r :: ls) (aQ r :: st) h := ex_st cal (s := s_ald 0 386) rfl rfl
theorem u_W_law_386 : ex cal k_W_law 386 (x0 :: x1 :: x2 :: aI v :: ls) (st) h = ex cal k_W_law 387 (x0 :: x1 :: x2 :: aI v :: ls) (aI v :: st) h := ex_st cal (s := s_ild 3 387) rfl rfl
theorem u_W_law_387 : ex cal k_W_law 387 (ls) (st) h = ex cal k_W_law 388 (ls) (aI 2 :: st) h := e_push cal rfl
theorem u_W_law_388 : ex cal k_W_law 388 (ls) (aI j :: aI i :: st) h = ex cal k_W_law 389 (ls) (aI (i + j) :: st) h := e_bin cal rfl
theorem u_W_law_389 : ex cal k_W_law 389 (ls) (aI i :: aQ (some a) :: st) h = gA h a i (ex cal k_W_law 390 (ls) (aI (ai h a (wr i)) :: st) h) := e_ia cal rfl
theorem u_W_law_390 (hl : Nat.ble st.length 4 = true) : ex cal k_W_law 390 (ls) (aI z1 :: aI z0 :: aQ (some a) :: st) h = gO h a 9 (kk cal k_W_law 393 ls st (cal M_C_back [aQ (some a), aI z0, aI z1] h)) := e_callV cal (ci := 9) (as := [aI z1, aI z0]) rfl (by decide) rfl (Nat.le_of_ble_eq_true hl)
theorem u_W_law_393 : ex cal k_W_law 393 (x0 :: x1 :: aQ r :: ls) (st) h = ex cal k_W_law 394 (x0 :: x1 :: aQ r :: ls) (aQ r :: st) h := ex_st cal (s := s_ald 2 394) rfl rfl
theorem u_W_law_394 : ex cal k_W_law 394 (aQ r :: ls) (st) h = ex cal k_W_law 395 (aQ r :: ls) (aQ r :: st) h := ex_st cal (s := s_ald 0 395) rfl rfl
theorem u_W_law_395 : ex cal k_W_law 395 (x0 :: x1 :: x2 :: aI v :: ls) (st) h = ex cal k_W_law 396 (x0 :: x1 :: x2 :: aI v :: ls) (aI v :: st) h := ex_st cal (s := s_ild 3 396) rfl rfl
theorem u_W_law_396 : ex cal k_W_law 396 (ls) (st) h = ex cal k_W_law 397 (ls) (aI 1 :: st) h := e_push cal rfl
theorem u_W_law_397 : ex cal k_W_law 397 (ls) (aI j :: aI i :: st) h = ex cal k_W_law 398 (ls) (aI (i + j) :: st) h := e_bin cal rfl
theorem u_W_law_398 : ex cal k_W_law 398 (ls) (aI i :: aQ (some a) :: st) h = gA h a i (ex cal k_W_law 399 (ls) (aI (ai h a (wr i)) :: st) h) := e_ia cal rfl
theorem u_W_law_399 : ex cal k_W_law 399 (aQ r :: ls) (st) h = ex cal k_W_law 400 (aQ r :: ls) (aQ r :: st) h := ex_st cal (s := s_ald 0 400) rfl rfl
theorem u_W_law_400 : ex cal k_W_law 400 (x0 :: x1 :: x2 :: aI v :: ls) (st) h = ex cal k_W_law 401 (x0 :: x1 :: x2 :: aI v :: ls) (aI v :: st) h := ex_st cal (s := s_ild 3 401) rfl rfl
theorem u_W_law_401 : ex cal k_W_law 401 (ls) (st) h = ex cal k_W_law 402 (ls) (aI 2 :: st) h := e_push cal rfl
theorem u_W_law_402 : ex cal k_W_law 402 (ls) (aI j :: aI i :: st) h = ex cal k_W_law 403 (ls) (aI (i + j) :: st) h := e_bin cal rfl
theorem u_W_law_403 : ex cal k_W_law 403 (ls) (aI i :: aQ (some a) :: st) h = gA h a i (ex cal k_W_law 404 (ls) (aI (ai h a (wr i)) :: st) h) := e_ia cal rfl
theorem u_W_law_404 (hl : Nat.ble st.length 4 = true) : ex cal k_W_law 404 (ls) (aI z1 :: aI z0 :: aQ (some a) :: st) h = gO h a 10 (kk cal k_W_law 407 ls st (cal M_R_back [aQ (some a), aI z0, aI z1] h)) := e_callV cal (ci := 10) (as := [aI z1, aI z0]) rfl (by decide) rfl (Nat.le_of_ble_eq_true hl)
theorem u_W_law_407 : ex cal k_W_law 407 (ls) (aI j :: aI i :: st) h = if wr i = wr j then ex cal k_W_law 1141 (ls) (st) h else ex cal k_W_law 410 (ls) (st) h := e_iceq cal rfl
theorem u_W_law_410 : ex cal k_W_law 410 (ls) (st) h = ex cal k_W_law 411 (ls) (aI 0 :: st) h := e_push cal rfl
theorem u_W_law_411 (hv : v = 0 ∨ v = 1) : ex cal k_W_law 411 (ls) ([aI v]) h = some (some (aI v), h) := e_ret22 rfl hv
theorem u_W_law_412 : ex cal k_W_law 412 (x0 :: aQ r :: ls) (st) h = ex cal k_W_law 413 (x0 :: aQ r :: ls) (aQ r :: st) h := ex_st cal (s := s_ald 1 413) rfl rfl
theorem u_W_law_413 : ex cal k_W_law 413 (aQ r :: ls) (st) h = ex cal k_W_law 414 (aQ r :: ls) (aQ r :: st) h := ex_st cal (s := s_ald 0 414) rfl rfl
theorem u_W_law_414 : ex cal k_W_law 414 (x0 :: x1 :: x2 :: aI v :: ls) (st) h = ex cal k_W_law 415 (x0 :: x1 :: x2 :: aI v :: ls) (aI v :: st) h := ex_st cal (s := s_ild 3 415) rfl rfl
theorem u_W_law_415 : ex cal k_W_law 415 (ls) (st) h = ex cal k_W_law 416 (ls) (aI 1 :: st) h := e_push cal rfl
theorem u_W_law_416 : ex cal k_W_law 416 (ls) (aI j :: aI i :: st) h = ex cal k_W_law 417 (ls) (aI (i + j) :: st) h := e_bin cal rfl
theorem u_W_law_417 : ex cal k_W_law 417 (ls) (aI i :: aQ (some a) :: st) h = gA h a i (ex cal k_W_law 418 (ls) (aI (ai h a (wr i)) :: st) h) := e_ia cal rfl
theorem u_W_law_418 : ex cal k_W_law 418 (aQ r :: ls) (st) h = ex cal k_W_law 419 (aQ r :: ls) (aQ r :: st) h := ex_st cal (s := s_ald 0 419) rfl rfl
theorem u_W_law_419 : ex cal k_W_law 419 (x0 :: x1 :: x2 :: aI v :: ls) (st) h = ex cal k_W_law 420 (x0 :: x1 :: x2 :: aI v :: ls) (aI v :: st) h := ex_st cal (s := s_ild 3 420) rfl rfl
theorem u_W_law_420 : ex cal k_W_law 420 (ls) (st) h = ex cal k_W_law 421 (ls) (aI 2 :: st) h := e_push cal rfl
theorem u_W_law_421 : ex cal k_W_law 421 (ls) (aI j :: aI i :: st) h = ex cal k_W_law 422 (ls) (aI (i + j) :: st) h := e_bin cal rfl
theorem u_W_law_422 : ex cal k_W_law 422 (ls) (aI i :: aQ (some a) :: st) h = gA h a i (ex cal k_W_law 423 (ls) (aI (ai h a (wr i)) :: st) h) := e_ia cal rfl
theorem u_W_law_423 : ex cal k_W_law 423 (aQ r :: ls) (st) h = ex cal k_W_law 424 (aQ r :: ls) (aQ r :: st) h := ex_st cal (s := s_ald 0 424) rfl rfl
theorem u_W_law_424 : ex cal k_W_law 424 (x0 :: x1 :: x2 :: aI v :: ls) (st) h = ex cal k_W_law 425 (x0 :: x1 :: x2 :: aI v :: ls) (aI v :: st) h := ex_st cal (s := s_ild 3 425) rfl rfl
theorem u_W_law_425 : ex cal k_W_law 425 (ls) (st) h = ex cal k_W_law 426 (ls) (aI 3 :: st) h := e_push cal rfl
theorem u_W_law_426 : ex cal k_W_law 426 (ls) (aI j :: aI i :: st) h = ex cal k_W_law 427 (ls) (aI (i + j) :: st) h := e_bin cal rfl
theorem u_W_law_427 : ex cal k_W_law 427 (ls) (aI i :: aQ (some a) :: st) h = gA h a i (ex cal k_W_law 428 (ls) (aI (ai h a (wr i)) :: st) h) := e_ia cal rfl
theorem u_W_law_428 : ex cal k_W_law 428 (aQ r :: ls) (st) h = ex cal k_W_law 429 (aQ r :: ls) (aQ r :: st) h := ex_st cal (s := s_ald 0 429) rfl rfl
theorem u_W_law_429 : ex cal k_W_law 429 (x0 :: x1 :: x2 :: aI v :: ls) (st) h = ex cal k_W_law 430 (x0 :: x1 :: x2 :: aI v :: ls) (aI v :: st) h := ex_st cal (s := s_ild 3 430) rfl rfl
theorem u_W_law_430 : ex cal k_W_law 430 (ls) (st) h = ex cal k_W_law 431 (ls) (aI 4 :: st) h := e_push cal rfl
theorem u_W_law_431 : ex cal k_W_law 431 (ls) (aI j :: aI i :: st) h = ex cal k_W_law 432 (ls) (aI (i + j) :: st) h := e_bin cal rfl
theorem u_W_law_432 : ex cal k_W_law 432 (ls) (aI i :: aQ (some a) :: st) h = gA h a i (ex cal k_W_law 433 (ls) (aI (ai h a (wr i)) :: st) h) := e_ia cal rfl
theorem u_W_law_433 (hl : Nat.ble st.length 4 = true) : ex cal k_W_law 433 (ls) (aI z3 :: aI z2 :: aI z1 :: aI z0 :: aQ (some a) :: st) h = gO h a 9 (kk cal k_W_law 436 ls st (cal M_C_read [aQ (some a), aI z0, aI z1, aI z2, aI z3] h)) := e_callV cal (ci := 9) (as := [aI z3, aI z2, aI z1, aI z0]) rfl (by decide) rfl (Nat.le_of_ble_eq_true hl)
theorem u_W_law_436 : ex cal k_W_law 436 (x0 :: x1 :: aQ r :: ls) (st) h = ex cal k_W_law 437 (x0 :: x1 :: aQ r :: ls) (aQ r :: st) h := ex_st cal (s := s_ald 2 437) rfl rfl
theorem u_W_law_437 : ex cal k_W_law 437 (aQ r :: ls) (st) h = ex cal k_W_law 438 (aQ r :: ls) (aQ r :: st) h := ex_st cal (s := s_ald 0 438) rfl rfl
theorem u_W_law_438 : ex cal k_W_law 438 (x0 :: x1 :: x2 :: aI v :: ls) (st) h = ex cal k_W_law 439 (x0 :: x1 :: x2 :: aI v :: ls) (aI v :: st) h := ex_st cal (s := s_ild 3 439) rfl rfl
theorem u_W_law_439 : ex cal k_W_law 439 (ls) (st) h = ex cal k_W_law 440 (ls) (aI 1 :: st) h := e_push cal rfl
theorem u_W_law_440 : ex cal k_W_law 440 (ls) (aI j :: aI i :: st) h = ex cal k_W_law 441 (ls) (aI (i + j) :: st) h := e_bin cal rfl
theorem u_W_law_441 : ex cal k_W_law 441 (ls) (aI i :: aQ (some a) :: st) h = gA h a i (ex cal k_W_law 442 (ls) (aI (ai h a (wr i)) :: st) h) := e_ia cal rfl
theorem u_W_law_442 : ex cal k_W_law 442 (aQ r :: ls) (st) h = ex cal k_W_law 443 (aQ r :: ls) (aQ r :: st) h := ex_st cal (s := s_ald 0 443) rfl rfl
theorem u_W_law_443 : ex cal k_W_law 443 (x0 :: x1 :: x2 :: aI v :: ls) (st) h = ex cal k_W_law 444 (x0 :: x1 :: x2 :: aI v :: ls) (aI v :: st) h := ex_st cal (s := s_ild 3 444) rfl rfl
theorem u_W_law_444 : ex cal k_W_law 444 (ls) (st) h = ex cal k_W_law 445 (ls) (aI 2 :: st) h := e_push cal rfl
theorem u_W_law_445 : ex cal k_W_law 445 (ls) (aI j :: aI i :: st) h = ex cal k_W_law 446 (ls) (aI (i + j) :: st) h := e_bin cal rfl
theorem u_W_law_446 : ex cal k_W_law 446 (ls) (aI i :: aQ (some a) :: st) h = gA h a i (ex cal k_W_law 447 (ls) (aI (ai h a (wr i)) :: st) h) := e_ia cal rfl
theorem u_W_law_447 : ex cal k_W_law 447 (aQ r :: ls) (st) h = ex cal k_W_law 448 (aQ r :: ls) (aQ r :: st) h := ex_st cal (s := s_ald 0 448) rfl rfl
theorem u_W_law_448 : ex cal k_W_law 448 (x0 :: x1 :: x2 :: aI v :: ls) (st) h = ex cal k_W_law 449 (x0 :: x1 :: x2 :: aI v :: ls) (aI v :: st) h := ex_st cal (s := s_ild 3 449) rfl rfl
theorem u_W_law_449 : ex cal k_W_law 449 (ls) (st) h = ex cal k_W_law 450 (ls) (aI 3 :: st) h := e_push cal rfl
theorem u_W_law_450 : ex cal k_W_law 450 (ls) (aI j :: aI i :: st) h = ex cal k_W_law 451 (ls) (aI (i + j) :: st) h := e_bin cal rfl
theorem u_W_law_451 : ex cal k_W_law 451 (ls) (aI i :: aQ (some a) :: st) h = gA h a i (ex cal k_W_law 452 (ls) (aI (ai h a (wr i)) :: st) h) := e_ia cal rfl
theorem u_W_law_452 : ex cal k_W_law 452 (aQ r :: ls) (st) h = ex cal k_W_law 453 (aQ r :: ls) (aQ r :: st) h := ex_st cal (s := s_ald 0 453) rfl rfl
theorem u_W_law_453 : ex cal k_W_law 453 (x0 :: x1 :: x2 :: aI v :: ls) (st) h = ex cal k_W_law 454 (x0 :: x1 :: x2 :: aI v :: ls) (aI v :: st) h := ex_st cal (s := s_ild 3 454) rfl rfl
theorem u_W_law_454 : ex cal k_W_law 454 (ls) (st) h = ex cal k_W_law 455 (ls) (aI 4 :: st) h := e_push cal rfl
theorem u_W_law_455 : ex cal k_W_law 455 (ls) (aI j :: aI i :: st) h = ex cal k_W_law 456 (ls) (aI (i + j) :: st) h := e_bin cal rfl
theorem u_W_law_456 : ex cal k_W_law 456 (ls) (aI i :: aQ (some a) :: st) h = gA h a i (ex cal k_W_law 457 (ls) (aI (ai h a (wr i)) :: st) h) := e_ia cal rfl
theorem u_W_law_457 (hl : Nat.ble st.length 4 = true) : ex cal k_W_law 457 (ls) (aI z3 :: aI z2 :: aI z1 :: aI z0 :: aQ (some a) :: st) h = gO h a 10 (kk cal k_W_law 460 ls st (cal M_R_read [aQ (some a), aI z0, aI z1, aI z2, aI z3] h)) := e_callV cal (ci := 10) (as := [aI z3, aI z2, aI z1, aI z0]) rfl (by decide) rfl (Nat.le_of_ble_eq_true hl)
theorem u_W_law_460 : ex cal k_W_law 460 (ls) (aI j :: aI i :: st) h = if wr i = wr j then ex cal k_W_law 1141 (ls) (st) h else ex cal k_W_law 463 (ls) (st) h := e_iceq cal rfl
theorem u_W_law_463 : ex cal k_W_law 463 (ls) (st) h = ex cal k_W_law 464 (ls) (aI 0 :: st) h := e_push cal rfl
theorem u_W_law_464 (hv : v = 0 ∨ v = 1) : ex cal k_W_law 464 (ls) ([aI v]) h = some (some (aI v), h) := e_ret22 rfl hv
theorem u_W_law_465 : ex cal k_W_law 465 (x0 :: aQ r :: ls) (st) h = ex cal k_W_law 466 (x0 :: aQ r :: ls) (aQ r :: st) h := ex_st cal (s := s_ald 1 466) rfl rfl
theorem u_W_law_466 (hl : Nat.ble st.length 4 = true) : ex cal k_W_law 466 (ls) (aQ (some a) :: st) h = gO h a 9 (kk cal k_W_law 469 ls st (cal M_C_image [aQ (some a)] h)) := e_callV cal (ci := 9) (as := []) rfl (by decide) rfl (Nat.le_of_ble_eq_true hl)
theorem u_W_law_469 : ex cal k_W_law 469 (x0 :: x1 :: aQ r :: ls) (st) h = ex cal k_W_law 470 (x0 :: x1 :: aQ r :: ls) (aQ r :: st) h := ex_st cal (s := s_ald 2 470) rfl rfl
theorem u_W_law_470 (hl : Nat.ble st.length 4 = true) : ex cal k_W_law 470 (ls) (aQ (some a) :: st) h = gO h a 10 (kk cal k_W_law 473 ls st (cal M_R_image [aQ (some a)] h)) := e_callV cal (ci := 10) (as := []) rfl (by decide) rfl (Nat.le_of_ble_eq_true hl)
theorem u_W_law_473 : ex cal k_W_law 473 (ls) (aI j :: aI i :: st) h = if wr i = wr j then ex cal k_W_law 1141 (ls) (st) h else ex cal k_W_law 476 (ls) (st) h := e_iceq cal rfl
theorem u_W_law_476 : ex cal k_W_law 476 (ls) (st) h = ex cal k_W_law 477 (ls) (aI 0 :: st) h := e_push cal rfl
theorem u_W_law_477 (hv : v = 0 ∨ v = 1) : ex cal k_W_law 477 (ls) ([aI v]) h = some (some (aI v), h) := e_ret22 rfl hv
theorem u_W_law_478 : ex cal k_W_law 478 (x0 :: aQ r :: ls) (st) h = ex cal k_W_law 479 (x0 :: aQ r :: ls) (aQ r :: st) h := ex_st cal (s := s_ald 1 479) rfl rfl
theorem u_W_law_479 (hl : Nat.ble st.length 4 = true) : ex cal k_W_law 479 (ls) (aQ (some a) :: st) h = gO h a 9 (kk cal k_W_law 482 ls st (cal M_C_restore [aQ (some a)] h)) := e_callV cal (ci := 9) (as := []) rfl (by decide) rfl (Nat.le_of_ble_eq_true hl)
theorem u_W_law_482 : ex cal k_W_law 482 (x0 :: x1 :: aQ r :: ls) (st) h = ex cal k_W_law 483 (x0 :: x1 :: aQ r :: ls) (aQ r :: st) h := ex_st cal (s := s_ald 2 483) rfl rfl
theorem u_W_law_483 (hl : Nat.ble st.length 4 = true) : ex cal k_W_law 483 (ls) (aQ (some a) :: st) h = gO h a 10 (kk cal k_W_law 486 ls st (cal M_R_restore [aQ (some a)] h)) := e_callV cal (ci := 10) (as := []) rfl (by decide) rfl (Nat.le_of_ble_eq_true hl)
theorem u_W_law_486 : ex cal k_W_law 486 (ls) (aI j :: aI i :: st) h = if wr i = wr j then ex cal k_W_law 1141 (ls) (st) h else ex cal k_W_law 489 (ls) (st) h := e_iceq cal rfl
theorem u_W_law_489 : ex cal k_W_law 489 (ls) (st) h = ex cal k_W_law 490 (ls) (aI 0 :: st) h := e_push cal rfl
theorem u_W_law_490 (hv : v = 0 ∨ v = 1) : ex cal k_W_law 490 (ls) ([aI v]) h = some (some (aI v), h) := e_ret22 rfl hv
theorem u_W_law_491 : ex cal k_W_law 491 (x0 :: aQ r :: ls) (st) h = ex cal k_W_law 492 (x0 :: aQ r :: ls) (aQ r :: st) h := ex_st cal (s := s_ald 1 492) rfl rfl
theorem u_W_law_492 : ex cal k_W_law 492 (aQ r :: ls) (st) h = ex cal k_W_law 493 (aQ r :: ls) (aQ r :: st) h := ex_st cal (s := s_ald 0 493) rfl rfl
theorem u_W_law_493 : ex cal k_W_law 493 (x0 :: x1 :: x2 :: aI v :: ls) (st) h = ex cal k_W_law 494 (x0 :: x1 :: x2 :: aI v :: ls) (aI v :: st) h := ex_st cal (s := s_ild 3 494) rfl rfl
theorem u_W_law_494 : ex cal k_W_law 494 (ls) (st) h = ex cal k_W_law 495 (ls) (aI 1 :: st) h := e_push cal rfl
theorem u_W_law_495 : ex cal k_W_law 495 (ls) (aI j :: aI i :: st) h = ex cal k_W_law 496 (ls) (aI (i + j) :: st) h := e_bin cal rfl
theorem u_W_law_496 : ex cal k_W_law 496 (ls) (aI i :: aQ (some a) :: st) h = gA h a i (ex cal k_W_law 497 (ls) (aI (ai h a (wr i)) :: st) h) := e_ia cal rfl
theorem u_W_law_497 (hl : Nat.ble st.length 4 = true) : ex cal k_W_law 497 (ls) (aI z0 :: aQ (some a) :: st) h = gO h a 9 (kk cal k_W_law 500 ls st (cal M_C_lines [aQ (some a), aI z0] h)) := e_callV cal (ci := 9) (as := [aI z0]) rfl (by decide) rfl (Nat.le_of_ble_eq_true hl)
theorem u_W_law_500 : ex cal k_W_law 500 (x0 :: x1 :: aQ r :: ls) (st) h = ex cal k_W_law 501 (x0 :: x1 :: aQ r :: ls) (aQ r :: st) h := ex_st cal (s := s_ald 2 501) rfl rfl
theorem u_W_law_501 : ex cal k_W_law 501 (aQ r :: ls) (st) h = ex cal k_W_law 502 (aQ r :: ls) (aQ r :: st) h := ex_st cal (s := s_ald 0 502) rfl rfl
theorem u_W_law_502 : ex cal k_W_law 502 (x0 :: x1 :: x2 :: aI v :: ls) (st) h = ex cal k_W_law 503 (x0 :: x1 :: x2 :: aI v :: ls) (aI v :: st) h := ex_st cal (s := s_ild 3 503) rfl rfl
theorem u_W_law_503 : ex cal k_W_law 503 (ls) (st) h = ex cal k_W_law 504 (ls) (aI 1 :: st) h := e_push cal rfl
theorem u_W_law_504 : ex cal k_W_law 504 (ls) (aI j :: aI i :: st) h = ex cal k_W_law 505 (ls) (aI (i + j) :: st) h := e_bin cal rfl
theorem u_W_law_505 : ex cal k_W_law 505 (ls) (aI i :: aQ (some a) :: st) h = gA h a i (ex cal k_W_law 506 (ls) (aI (ai h a (wr i)) :: st) h) := e_ia cal rfl
theorem u_W_law_506 (hl : Nat.ble st.length 4 = true) : ex cal k_W_law 506 (ls) (aI z0 :: aQ (some a) :: st) h = gO h a 10 (kk cal k_W_law 509 ls st (cal M_R_lines [aQ (some a), aI z0] h)) := e_callV cal (ci := 10) (as := [aI z0]) rfl (by decide) rfl (Nat.le_of_ble_eq_true hl)
theorem u_W_law_509 : ex cal k_W_law 509 (ls) (aI j :: aI i :: st) h = if wr i = wr j then ex cal k_W_law 1141 (ls) (st) h else ex cal k_W_law 512 (ls) (st) h := e_iceq cal rfl
theorem u_W_law_512 : ex cal k_W_law 512 (ls) (st) h = ex cal k_W_law 513 (ls) (aI 0 :: st) h := e_push cal rfl
theorem u_W_law_513 (hv : v = 0 ∨ v = 1) : ex cal k_W_law 513 (ls) ([aI v]) h = some (some (aI v), h) := e_ret22 rfl hv
theorem u_W_law_514 : ex cal k_W_law 514 (x0 :: aQ r :: ls) (st) h = ex cal k_W_law 515 (x0 :: aQ r :: ls) (aQ r :: st) h := ex_st cal (s := s_ald 1 515) rfl rfl
theorem u_W_law_515 : ex cal k_W_law 515 (aQ r :: ls) (st) h = ex cal k_W_law 516 (aQ r :: ls) (aQ r :: st) h := ex_st cal (s := s_ald 0 516) rfl rfl
theorem u_W_law_516 : ex cal k_W_law 516 (x0 :: x1 :: x2 :: aI v :: ls) (st) h = ex cal k_W_law 517 (x0 :: x1 :: x2 :: aI v :: ls) (aI v :: st) h := ex_st cal (s := s_ild 3 517) rfl rfl
theorem u_W_law_517 : ex cal k_W_law 517 (ls) (st) h = ex cal k_W_law 518 (ls) (aI 1 :: st) h := e_push cal rfl
theorem u_W_law_518 : ex cal k_W_law 518 (ls) (aI j :: aI i :: st) h = ex cal k_W_law 519 (ls) (aI (i + j) :: st) h := e_bin cal rfl
theorem u_W_law_519 : ex cal k_W_law 519 (ls) (aI i :: aQ (some a) :: st) h = gA h a i (ex cal k_W_law 520 (ls) (aI (ai h a (wr i)) :: st) h) := e_ia cal rfl
theorem u_W_law_520 : ex cal k_W_law 520 (aQ r :: ls) (st) h = ex cal k_W_law 521 (aQ r :: ls) (aQ r :: st) h := ex_st cal (s := s_ald 0 521) rfl rfl
theorem u_W_law_521 : ex cal k_W_law 521 (x0 :: x1 :: x2 :: aI v :: ls) (st) h = ex cal k_W_law 522 (x0 :: x1 :: x2 :: aI v :: ls) (aI v :: st) h := ex_st cal (s := s_ild 3 522) rfl rfl
theorem u_W_law_522 : ex cal k_W_law 522 (ls) (st) h = ex cal k_W_law 523 (ls) (aI 2 :: st) h := e_push cal rfl
theorem u_W_law_523 : ex cal k_W_law 523 (ls) (aI j :: aI i :: st) h = ex cal k_W_law 524 (ls) (aI (i + j) :: st) h := e_bin cal rfl
theorem u_W_law_524 : ex cal k_W_law 524 (ls) (aI i :: aQ (some a) :: st) h = gA h a i (ex cal k_W_law 525 (ls) (aI (ai h a (wr i)) :: st) h) := e_ia cal rfl
theorem u_W_law_525 : ex cal k_W_law 525 (aQ r :: ls) (st) h = ex cal k_W_law 526 (aQ r :: ls) (aQ r :: st) h := ex_st cal (s := s_ald 0 526) rfl rfl
theorem u_W_law_526 : ex cal k_W_law 526 (x0 :: x1 :: x2 :: aI v :: ls) (st) h = ex cal k_W_law 527 (x0 :: x1 :: x2 :: aI v :: ls) (aI v :: st) h := ex_st cal (s := s_ild 3 527) rfl rfl
theorem u_W_law_527 : ex cal k_W_law 527 (ls) (st) h = ex cal k_W_law 528 (ls) (aI 3 :: st) h := e_push cal rfl
theorem u_W_law_528 : ex cal k_W_law 528 (ls) (aI j :: aI i :: st) h = ex cal k_W_law 529 (ls) (aI (i + j) :: st) h := e_bin cal rfl
theorem u_W_law_529 : ex cal k_W_law 529 (ls) (aI i :: aQ (some a) :: st) h = gA h a i (ex cal k_W_law 530 (ls) (aI (ai h a (wr i)) :: st) h) := e_ia cal rfl
theorem u_W_law_530 (hl : Nat.ble st.length 4 = true) : ex cal k_W_law 530 (ls) (aI z2 :: aI z1 :: aI z0 :: aQ (some a) :: st) h = gO h a 9 (kk cal k_W_law 533 ls st (cal M_C_line [aQ (some a), aI z0, aI z1, aI z2] h)) := e_callV cal (ci := 9) (as := [aI z2, aI z1, aI z0]) rfl (by decide) rfl (Nat.le_of_ble_eq_true hl)
theorem u_W_law_533 : ex cal k_W_law 533 (x0 :: x1 :: aQ r :: ls) (st) h = ex cal k_W_law 534 (x0 :: x1 :: aQ r :: ls) (aQ r :: st) h := ex_st cal (s := s_ald 2 534) rfl rfl
theorem u_W_law_534 : ex cal k_W_law 534 (aQ r :: ls) (st) h = ex cal k_W_law 535 (aQ r :: ls) (aQ r :: st) h := ex_st cal (s := s_ald 0 535) rfl rfl
theorem u_W_law_535 : ex cal k_W_law 535 (x0 :: x1 :: x2 :: aI v :: ls) (st) h = ex cal k_W_law 536 (x0 :: x1 :: x2 :: aI v :: ls) (aI v :: st) h := ex_st cal (s := s_ild 3 536) rfl rfl
theorem u_W_law_536 : ex cal k_W_law 536 (ls) (st) h = ex cal k_W_law 537 (ls) (aI 1 :: st) h := e_push cal rfl
theorem u_W_law_537 : ex cal k_W_law 537 (ls) (aI j :: aI i :: st) h = ex cal k_W_law 538 (ls) (aI (i + j) :: st) h := e_bin cal rfl
theorem u_W_law_538 : ex cal k_W_law 538 (ls) (aI i :: aQ (some a) :: st) h = gA h a i (ex cal k_W_law 539 (ls) (aI (ai h a (wr i)) :: st) h) := e_ia cal rfl
theorem u_W_law_539 : ex cal k_W_law 539 (aQ r :: ls) (st) h = ex cal k_W_law 540 (aQ r :: ls) (aQ r :: st) h := ex_st cal (s := s_ald 0 540) rfl rfl
theorem u_W_law_540 : ex cal k_W_law 540 (x0 :: x1 :: x2 :: aI v :: ls) (st) h = ex cal k_W_law 541 (x0 :: x1 :: x2 :: aI v :: ls) (aI v :: st) h := ex_st cal (s := s_ild 3 541) rfl rfl
theorem u_W_law_541 : ex cal k_W_law 541 (ls) (st) h = ex cal k_W_law 542 (ls) (aI 2 :: st) h := e_push cal rfl
theorem u_W_law_542 : ex cal k_W_law 542 (ls) (aI j :: aI i :: st) h = ex cal k_W_law 543 (ls) (aI (i + j) :: st) h := e_bin cal rfl
theorem u_W_law_543 : ex cal k_W_law 543 (ls) (aI i :: aQ (some a) :: st) h = gA h a i (ex cal k_W_law 544 (ls) (aI (ai h a (wr i)) :: st) h) := e_ia cal rfl
theorem u_W_law_544 : ex cal k_W_law 544 (aQ r :: ls) (st) h = ex cal k_W_law 545 (aQ r :: ls) (aQ r :: st) h := ex_st cal (s := s_ald 0 545) rfl rfl
theorem u_W_law_545 : ex cal k_W_law 545 (x0 :: x1 :: x2 :: aI v :: ls) (st) h = ex cal k_W_law 546 (x0 :: x1 :: x2 :: aI v :: ls) (aI v :: st) h := ex_st cal (s := s_ild 3 546) rfl rfl
theorem u_W_law_546 : ex cal k_W_law 546 (ls) (st) h = ex cal k_W_law 547 (ls) (aI 3 :: st) h := e_push cal rfl
theorem u_W_law_547 : ex cal k_W_law 547 (ls) (aI j :: aI i :: st) h = ex cal k_W_law 548 (ls) (aI (i + j) :: st) h := e_bin cal rfl
theorem u_W_law_548 : ex cal k_W_law 548 (ls) (aI i :: aQ (some a) :: st) h = gA h a i (ex cal k_W_law 549 (ls) (aI (ai h a (wr i)) :: st) h) := e_ia cal rfl
theorem u_W_law_549 (hl : Nat.ble st.length 4 = true) : ex cal k_W_law 549 (ls) (aI z2 :: aI z1 :: aI z0 :: aQ (some a) :: st) h = gO h a 10 (kk cal k_W_law 552 ls st (cal M_R_line [aQ (some a), aI z0, aI z1, aI z2] h)) := e_callV cal (ci := 10) (as := [aI z2, aI z1, aI z0]) rfl (by decide) rfl (Nat.le_of_ble_eq_true hl)
theorem u_W_law_552 : ex cal k_W_law 552 (ls) (aI j :: aI i :: st) h = if wr i = wr j then ex cal k_W_law 1141 (ls) (st) h else ex cal k_W_law 555 (ls) (st) h := e_iceq cal rfl
theorem u_W_law_555 : ex cal k_W_law 555 (ls) (st) h = ex cal k_W_law 556 (ls) (aI 0 :: st) h := e_push cal rfl
theorem u_W_law_556 (hv : v = 0 ∨ v = 1) : ex cal k_W_law 556 (ls) ([aI v]) h = some (some (aI v), h) := e_ret22 rfl hv
theorem u_W_law_557 : ex cal k_W_law 557 (x0 :: aQ r :: ls) (st) h = ex cal k_W_law 558 (x0 :: aQ r :: ls) (aQ r :: st) h := ex_st cal (s := s_ald 1 558) rfl rfl
theorem u_W_law_558 : ex cal k_W_law 558 (aQ r :: ls) (st) h = ex cal k_W_law 559 (aQ r :: ls) (aQ r :: st) h := ex_st cal (s := s_ald 0 559) rfl rfl
theorem u_W_law_559 : ex cal k_W_law 559 (x0 :: x1 :: x2 :: aI v :: ls) (st) h = ex cal k_W_law 560 (x0 :: x1 :: x2 :: aI v :: ls) (aI v :: st) h := ex_st cal (s := s_ild 3 560) rfl rfl
theorem u_W_law_560 : ex cal k_W_law 560 (ls) (st) h = ex cal k_W_law 561 (ls) (aI 1 :: st) h := e_push cal rfl
theorem u_W_law_561 : ex cal k_W_law 561 (ls) (aI j :: aI i :: st) h = ex cal k_W_law 562 (ls) (aI (i + j) :: st) h := e_bin cal rfl
theorem u_W_law_562 : ex cal k_W_law 562 (ls) (aI i :: aQ (some a) :: st) h = gA h a i (ex cal k_W_law 563 (ls) (aI (ai h a (wr i)) :: st) h) := e_ia cal rfl
theorem u_W_law_563 : ex cal k_W_law 563 (aQ r :: ls) (st) h = ex cal k_W_law 564 (aQ r :: ls) (aQ r :: st) h := ex_st cal (s := s_ald 0 564) rfl rfl
theorem u_W_law_564 : ex cal k_W_law 564 (x0 :: x1 :: x2 :: aI v :: ls) (st) h = ex cal k_W_law 565 (x0 :: x1 :: x2 :: aI v :: ls) (aI v :: st) h := ex_st cal (s := s_ild 3 565) rfl rfl
theorem u_W_law_565 : ex cal k_W_law 565 (ls) (st) h = ex cal k_W_law 566 (ls) (aI 2 :: st) h := e_push cal rfl
theorem u_W_law_566 : ex cal k_W_law 566 (ls) (aI j :: aI i :: st) h = ex cal k_W_law 567 (ls) (aI (i + j) :: st) h := e_bin cal rfl
theorem u_W_law_567 : ex cal k_W_law 567 (ls) (aI i :: aQ (some a) :: st) h = gA h a i (ex cal k_W_law 568 (ls) (aI (ai h a (wr i)) :: st) h) := e_ia cal rfl
theorem u_W_law_568 : ex cal k_W_law 568 (aQ r :: ls) (st) h = ex cal k_W_law 569 (aQ r :: ls) (aQ r :: st) h := ex_st cal (s := s_ald 0 569) rfl rfl
theorem u_W_law_569 : ex cal k_W_law 569 (x0 :: x1 :: x2 :: aI v :: ls) (st) h = ex cal k_W_law 570 (x0 :: x1 :: x2 :: aI v :: ls) (aI v :: st) h := ex_st cal (s := s_ild 3 570) rfl rfl
theorem u_W_law_570 : ex cal k_W_law 570 (ls) (st) h = ex cal k_W_law 571 (ls) (aI 3 :: st) h := e_push cal rfl
theorem u_W_law_571 : ex cal k_W_law 571 (ls) (aI j :: aI i :: st) h = ex cal k_W_law 572 (ls) (aI (i + j) :: st) h := e_bin cal rfl
theorem u_W_law_572 : ex cal k_W_law 572 (ls) (aI i :: aQ (some a) :: st) h = gA h a i (ex cal k_W_law 573 (ls) (aI (ai h a (wr i)) :: st) h) := e_ia cal rfl
theorem u_W_law_573 : ex cal k_W_law 573 (aQ r :: ls) (st) h = ex cal k_W_law 574 (aQ r :: ls) (aQ r :: st) h := ex_st cal (s := s_ald 0 574) rfl rfl
theorem u_W_law_574 : ex cal k_W_law 574 (x0 :: x1 :: x2 :: aI v :: ls) (st) h = ex cal k_W_law 575 (x0 :: x1 :: x2 :: aI v :: ls) (aI v :: st) h := ex_st cal (s := s_ild 3 575) rfl rfl
theorem u_W_law_575 : ex cal k_W_law 575 (ls) (st) h = ex cal k_W_law 576 (ls) (aI 4 :: st) h := e_push cal rfl
theorem u_W_law_576 : ex cal k_W_law 576 (ls) (aI j :: aI i :: st) h = ex cal k_W_law 577 (ls) (aI (i + j) :: st) h := e_bin cal rfl
theorem u_W_law_577 : ex cal k_W_law 577 (ls) (aI i :: aQ (some a) :: st) h = gA h a i (ex cal k_W_law 578 (ls) (aI (ai h a (wr i)) :: st) h) := e_ia cal rfl
theorem u_W_law_578 (hl : Nat.ble st.length 4 = true) : ex cal k_W_law 578 (ls) (aI z3 :: aI z2 :: aI z1 :: aI z0 :: aQ (some a) :: st) h = gO h a 9 (kk cal k_W_law 581 ls st (cal M_C_mark [aQ (some a), aI z0, aI z1, aI z2, aI z3] h)) := e_callV cal (ci := 9) (as := [aI z3, aI z2, aI z1, aI z0]) rfl (by decide) rfl (Nat.le_of_ble_eq_true hl)
theorem u_W_law_581 : ex cal k_W_law 581 (x0 :: x1 :: aQ r :: ls) (st) h = ex cal k_W_law 582 (x0 :: x1 :: aQ r :: ls) (aQ r :: st) h := ex_st cal (s := s_ald 2 582) rfl rfl
theorem u_W_law_582 : ex cal k_W_law 582 (aQ r :: ls) (st) h = ex cal k_W_law 583 (aQ r :: ls) (aQ r :: st) h := ex_st cal (s := s_ald 0 583) rfl rfl
theorem u_W_law_583 : ex cal k_W_law 583 (x0 :: x1 :: x2 :: aI v :: ls) (st) h = ex cal k_W_law 584 (x0 :: x1 :: x2 :: aI v :: ls) (aI v :: st) h := ex_st cal (s := s_ild 3 584) rfl rfl
theorem u_W_law_584 : ex cal k_W_law 584 (ls) (st) h = ex cal k_W_law 585 (ls) (aI 1 :: st) h := e_push cal rfl
theorem u_W_law_585 : ex cal k_W_law 585 (ls) (aI j :: aI i :: st) h = ex cal k_W_law 586 (ls) (aI (i + j) :: st) h := e_bin cal rfl
theorem u_W_law_586 : ex cal k_W_law 586 (ls) (aI i :: aQ (some a) :: st) h = gA h a i (ex cal k_W_law 587 (ls) (aI (ai h a (wr i)) :: st) h) := e_ia cal rfl
theorem u_W_law_587 : ex cal k_W_law 587 (aQ r :: ls) (st) h = ex cal k_W_law 588 (aQ r :: ls) (aQ r :: st) h := ex_st cal (s := s_ald 0 588) rfl rfl
theorem u_W_law_588 : ex cal k_W_law 588 (x0 :: x1 :: x2 :: aI v :: ls) (st) h = ex cal k_W_law 589 (x0 :: x1 :: x2 :: aI v :: ls) (aI v :: st) h := ex_st cal (s := s_ild 3 589) rfl rfl
theorem u_W_law_589 : ex cal k_W_law 589 (ls) (st) h = ex cal k_W_law 590 (ls) (aI 2 :: st) h := e_push cal rfl
theorem u_W_law_590 : ex cal k_W_law 590 (ls) (aI j :: aI i :: st) h = ex cal k_W_law 591 (ls) (aI (i + j) :: st) h := e_bin cal rfl
theorem u_W_law_591 : ex cal k_W_law 591 (ls) (aI i :: aQ (some a) :: st) h = gA h a i (ex cal k_W_law 592 (ls) (aI (ai h a (wr i)) :: st) h) := e_ia cal rfl
theorem u_W_law_592 : ex cal k_W_law 592 (aQ r :: ls) (st) h = ex cal k_W_law 593 (aQ r :: ls) (aQ r :: st) h := ex_st cal (s := s_ald 0 593) rfl rfl
theorem u_W_law_593 : ex cal k_W_law 593 (x0 :: x1 :: x2 :: aI v :: ls) (st) h = ex cal k_W_law 594 (x0 :: x1 :: x2 :: aI v :: ls) (aI v :: st) h := ex_st cal (s := s_ild 3 594) rfl rfl
theorem u_W_law_594 : ex cal k_W_law 594 (ls) (st) h = ex cal k_W_law 595 (ls) (aI 3 :: st) h := e_push cal rfl
theorem u_W_law_595 : ex cal k_W_law 595 (ls) (aI j :: aI i :: st) h = ex cal k_W_law 596 (ls) (aI (i + j) :: st) h := e_bin cal rfl
theorem u_W_law_596 : ex cal k_W_law 596 (ls) (aI i :: aQ (some a) :: st) h = gA h a i (ex cal k_W_law 597 (ls) (aI (ai h a (wr i)) :: st) h) := e_ia cal rfl
theorem u_W_law_597 : ex cal k_W_law 597 (aQ r :: ls) (st) h = ex cal k_W_law 598 (aQ r :: ls) (aQ r :: st) h := ex_st cal (s := s_ald 0 598) rfl rfl
theorem u_W_law_598 : ex cal k_W_law 598 (x0 :: x1 :: x2 :: aI v :: ls) (st) h = ex cal k_W_law 599 (x0 :: x1 :: x2 :: aI v :: ls) (aI v :: st) h := ex_st cal (s := s_ild 3 599) rfl rfl
theorem u_W_law_599 : ex cal k_W_law 599 (ls) (st) h = ex cal k_W_law 600 (ls) (aI 4 :: st) h := e_push cal rfl
theorem u_W_law_600 : ex cal k_W_law 600 (ls) (aI j :: aI i :: st) h = ex cal k_W_law 601 (ls) (aI (i + j) :: st) h := e_bin cal rfl
theorem u_W_law_601 : ex cal k_W_law 601 (ls) (aI i :: aQ (some a) :: st) h = gA h a i (ex cal k_W_law 602 (ls) (aI (ai h a (wr i)) :: st) h) := e_ia cal rfl
theorem u_W_law_602 (hl : Nat.ble st.length 4 = true) : ex cal k_W_law 602 (ls) (aI z3 :: aI z2 :: aI z1 :: aI z0 :: aQ (some a) :: st) h = gO h a 10 (kk cal k_W_law 605 ls st (cal M_R_mark [aQ (some a), aI z0, aI z1, aI z2, aI z3] h)) := e_callV cal (ci := 10) (as := [aI z3, aI z2, aI z1, aI z0]) rfl (by decide) rfl (Nat.le_of_ble_eq_true hl)
theorem u_W_law_605 : ex cal k_W_law 605 (ls) (aI j :: aI i :: st) h = if wr i = wr j then ex cal k_W_law 1141 (ls) (st) h else ex cal k_W_law 608 (ls) (st) h := e_iceq cal rfl
theorem u_W_law_608 : ex cal k_W_law 608 (ls) (st) h = ex cal k_W_law 609 (ls) (aI 0 :: st) h := e_push cal rfl
theorem u_W_law_609 (hv : v = 0 ∨ v = 1) : ex cal k_W_law 609 (ls) ([aI v]) h = some (some (aI v), h) := e_ret22 rfl hv
theorem u_W_law_610 : ex cal k_W_law 610 (x0 :: aQ r :: ls) (st) h = ex cal k_W_law 611 (x0 :: aQ r :: ls) (aQ r :: st) h := ex_st cal (s := s_ald 1 611) rfl rfl
theorem u_W_law_611 : ex cal k_W_law 611 (aQ r :: ls) (st) h = ex cal k_W_law 612 (aQ r :: ls) (aQ r :: st) h := ex_st cal (s := s_ald 0 612) rfl rfl
theorem u_W_law_612 : ex cal k_W_law 612 (x0 :: x1 :: x2 :: aI v :: ls) (st) h = ex cal k_W_law 613 (x0 :: x1 :: x2 :: aI v :: ls) (aI v :: st) h := ex_st cal (s := s_ild 3 613) rfl rfl
theorem u_W_law_613 : ex cal k_W_law 613 (ls) (st) h = ex cal k_W_law 614 (ls) (aI 1 :: st) h := e_push cal rfl
theorem u_W_law_614 : ex cal k_W_law 614 (ls) (aI j :: aI i :: st) h = ex cal k_W_law 615 (ls) (aI (i + j) :: st) h := e_bin cal rfl
theorem u_W_law_615 : ex cal k_W_law 615 (ls) (aI i :: aQ (some a) :: st) h = gA h a i (ex cal k_W_law 616 (ls) (aI (ai h a (wr i)) :: st) h) := e_ia cal rfl
theorem u_W_law_616 : ex cal k_W_law 616 (aQ r :: ls) (st) h = ex cal k_W_law 617 (aQ r :: ls) (aQ r :: st) h := ex_st cal (s := s_ald 0 617) rfl rfl
theorem u_W_law_617 : ex cal k_W_law 617 (x0 :: x1 :: x2 :: aI v :: ls) (st) h = ex cal k_W_law 618 (x0 :: x1 :: x2 :: aI v :: ls) (aI v :: st) h := ex_st cal (s := s_ild 3 618) rfl rfl
theorem u_W_law_618 : ex cal k_W_law 618 (ls) (st) h = ex cal k_W_law 619 (ls) (aI 2 :: st) h := e_push cal rfl
theorem u_W_law_619 : ex cal k_W_law 619 (ls) (aI j :: aI i :: st) h = ex cal k_W_law 620 (ls) (aI (i + j) :: st) h := e_bin cal rfl
theorem u_W_law_620 : ex cal k_W_law 620 (ls) (aI i :: aQ (some a) :: st) h = gA h a i (ex cal k_W_law 621 (ls) (aI (ai h a (wr i)) :: st) h) := e_ia cal rfl
theorem u_W_law_621 (hl : Nat.ble st.length 4 = true) : ex cal k_W_law 621 (ls) (aI z1 :: aI z0 :: aQ (some a) :: st) h = gO h a 9 (kk cal k_W_law 624 ls st (cal M_C_changeTold [aQ (some a), aI z0, aI z1] h)) := e_callV cal (ci := 9) (as := [aI z1, aI z0]) rfl (by decide) rfl (Nat.le_of_ble_eq_true hl)
theorem u_W_law_624 : ex cal k_W_law 624 (x0 :: x1 :: aQ r :: ls) (st) h = ex cal k_W_law 625 (x0 :: x1 :: aQ r :: ls) (aQ r :: st) h := ex_st cal (s := s_ald 2 625) rfl rfl
theorem u_W_law_625 : ex cal k_W_law 625 (aQ r :: ls) (st) h = ex cal k_W_law 626 (aQ r :: ls) (aQ r :: st) h := ex_st cal (s := s_ald 0 626) rfl rfl
theorem u_W_law_626 : ex cal k_W_law 626 (x0 :: x1 :: x2 :: aI v :: ls) (st) h = ex cal k_W_law 627 (x0 :: x1 :: x2 :: aI v :: ls) (aI v :: st) h := ex_st cal (s := s_ild 3 627) rfl rfl
theorem u_W_law_627 : ex cal k_W_law 627 (ls) (st) h = ex cal k_W_law 628 (ls) (aI 1 :: st) h := e_push cal rfl
theorem u_W_law_628 : ex cal k_W_law 628 (ls) (aI j :: aI i :: st) h = ex cal k_W_law 629 (ls) (aI (i + j) :: st) h := e_bin cal rfl
theorem u_W_law_629 : ex cal k_W_law 629 (ls) (aI i :: aQ (some a) :: st) h = gA h a i (ex cal k_W_law 630 (ls) (aI (ai h a (wr i)) :: st) h) := e_ia cal rfl
theorem u_W_law_630 : ex cal k_W_law 630 (aQ r :: ls) (st) h = ex cal k_W_law 631 (aQ r :: ls) (aQ r :: st) h := ex_st cal (s := s_ald 0 631) rfl rfl
theorem u_W_law_631 : ex cal k_W_law 631 (x0 :: x1 :: x2 :: aI v :: ls) (st) h = ex cal k_W_law 632 (x0 :: x1 :: x2 :: aI v :: ls) (aI v :: st) h := ex_st cal (s := s_ild 3 632) rfl rfl
theorem u_W_law_632 : ex cal k_W_law 632 (ls) (st) h = ex cal k_W_law 633 (ls) (aI 2 :: st) h := e_push cal rfl
theorem u_W_law_633 : ex cal k_W_law 633 (ls) (aI j :: aI i :: st) h = ex cal k_W_law 634 (ls) (aI (i + j) :: st) h := e_bin cal rfl
theorem u_W_law_634 : ex cal k_W_law 634 (ls) (aI i :: aQ (some a) :: st) h = gA h a i (ex cal k_W_law 635 (ls) (aI (ai h a (wr i)) :: st) h) := e_ia cal rfl
theorem u_W_law_635 (hl : Nat.ble st.length 4 = true) : ex cal k_W_law 635 (ls) (aI z1 :: aI z0 :: aQ (some a) :: st) h = gO h a 10 (kk cal k_W_law 638 ls st (cal M_R_changeTold [aQ (some a), aI z0, aI z1] h)) := e_callV cal (ci := 10) (as := [aI z1, aI z0]) rfl (by decide) rfl (Nat.le_of_ble_eq_true hl)
theorem u_W_law_638 : ex cal k_W_law 638 (ls) (aI j :: aI i :: st) h = if wr i = wr j then ex cal k_W_law 1141 (ls) (st) h else ex cal k_W_law 641 (ls) (st) h := e_iceq cal rfl
theorem u_W_law_641 : ex cal k_W_law 641 (ls) (st) h = ex cal k_W_law 642 (ls) (aI 0 :: st) h := e_push cal rfl
theorem u_W_law_642 (hv : v = 0 ∨ v = 1) : ex cal k_W_law 642 (ls) ([aI v]) h = some (some (aI v), h) := e_ret22 rfl hv
theorem u_W_law_643 : ex cal k_W_law 643 (x0 :: aQ r :: ls) (st) h = ex cal k_W_law 644 (x0 :: aQ r :: ls) (aQ r :: st) h := ex_st cal (s := s_ald 1 644) rfl rfl
theorem u_W_law_644 : ex cal k_W_law 644 (aQ r :: ls) (st) h = ex cal k_W_law 645 (aQ r :: ls) (aQ r :: st) h := ex_st cal (s := s_ald 0 645) rfl rfl
theorem u_W_law_645 : ex cal k_W_law 645 (x0 :: x1 :: x2 :: aI v :: ls) (st) h = ex cal k_W_law 646 (x0 :: x1 :: x2 :: aI v :: ls) (aI v :: st) h := ex_st cal (s := s_ild 3 646) rfl rfl
theorem u_W_law_646 : ex cal k_W_law 646 (ls) (st) h = ex cal k_W_law 647 (ls) (aI 1 :: st) h := e_push cal rfl
theorem u_W_law_647 : ex cal k_W_law 647 (ls) (aI j :: aI i :: st) h = ex cal k_W_law 648 (ls) (aI (i + j) :: st) h := e_bin cal rfl
theorem u_W_law_648 : ex cal k_W_law 648 (ls) (aI i :: aQ (some a) :: st) h = gA h a i (ex cal k_W_law 649 (ls) (aI (ai h a (wr i)) :: st) h) := e_ia cal rfl
theorem u_W_law_649 : ex cal k_W_law 649 (aQ r :: ls) (st) h = ex cal k_W_law 650 (aQ r :: ls) (aQ r :: st) h := ex_st cal (s := s_ald 0 650) rfl rfl
theorem u_W_law_650 : ex cal k_W_law 650 (x0 :: x1 :: x2 :: aI v :: ls) (st) h = ex cal k_W_law 651 (x0 :: x1 :: x2 :: aI v :: ls) (aI v :: st) h := ex_st cal (s := s_ild 3 651) rfl rfl
theorem u_W_law_651 : ex cal k_W_law 651 (ls) (st) h = ex cal k_W_law 652 (ls) (aI 2 :: st) h := e_push cal rfl
theorem u_W_law_652 : ex cal k_W_law 652 (ls) (aI j :: aI i :: st) h = ex cal k_W_law 653 (ls) (aI (i + j) :: st) h := e_bin cal rfl
theorem u_W_law_653 : ex cal k_W_law 653 (ls) (aI i :: aQ (some a) :: st) h = gA h a i (ex cal k_W_law 654 (ls) (aI (ai h a (wr i)) :: st) h) := e_ia cal rfl
theorem u_W_law_654 : ex cal k_W_law 654 (aQ r :: ls) (st) h = ex cal k_W_law 655 (aQ r :: ls) (aQ r :: st) h := ex_st cal (s := s_ald 0 655) rfl rfl
theorem u_W_law_655 : ex cal k_W_law 655 (x0 :: x1 :: x2 :: aI v :: ls) (st) h = ex cal k_W_law 656 (x0 :: x1 :: x2 :: aI v :: ls) (aI v :: st) h := ex_st cal (s := s_ild 3 656) rfl rfl
theorem u_W_law_656 : ex cal k_W_law 656 (ls) (st) h = ex cal k_W_law 657 (ls) (aI 3 :: st) h := e_push cal rfl
theorem u_W_law_657 : ex cal k_W_law 657 (ls) (aI j :: aI i :: st) h = ex cal k_W_law 658 (ls) (aI (i + j) :: st) h := e_bin cal rfl
theorem u_W_law_658 : ex cal k_W_law 658 (ls) (aI i :: aQ (some a) :: st) h = gA h a i (ex cal k_W_law 659 (ls) (aI (ai h a (wr i)) :: st) h) := e_ia cal rfl
theorem u_W_law_659 (hl : Nat.ble st.length 4 = true) : ex cal k_W_law 659 (ls) (aI z2 :: aI z1 :: aI z0 :: aQ (some a) :: st) h = gO h a 9 (kk cal k_W_law 662 ls st (cal M_C_points [aQ (some a), aI z0, aI z1, aI z2] h)) := e_callV cal (ci := 9) (as := [aI z2, aI z1, aI z0]) rfl (by decide) rfl (Nat.le_of_ble_eq_true hl)
theorem u_W_law_662 : ex cal k_W_law 662 (x0 :: x1 :: aQ r :: ls) (st) h = ex cal k_W_law 663 (x0 :: x1 :: aQ r :: ls) (aQ r :: st) h := ex_st cal (s := s_ald 2 663) rfl rfl
theorem u_W_law_663 : ex cal k_W_law 663 (aQ r :: ls) (st) h = ex cal k_W_law 664 (aQ r :: ls) (aQ r :: st) h := ex_st cal (s := s_ald 0 664) rfl rfl
theorem u_W_law_664 : ex cal k_W_law 664 (x0 :: x1 :: x2 :: aI v :: ls) (st) h = ex cal k_W_law 665 (x0 :: x1 :: x2 :: aI v :: ls) (aI v :: st) h := ex_st cal (s := s_ild 3 665) rfl rfl
theorem u_W_law_665 : ex cal k_W_law 665 (ls) (st) h = ex cal k_W_law 666 (ls) (aI 1 :: st) h := e_push cal rfl
theorem u_W_law_666 : ex cal k_W_law 666 (ls) (aI j :: aI i :: st) h = ex cal k_W_law 667 (ls) (aI (i + j) :: st) h := e_bin cal rfl
theorem u_W_law_667 : ex cal k_W_law 667 (ls) (aI i :: aQ (some a) :: st) h = gA h a i (ex cal k_W_law 668 (ls) (aI (ai h a (wr i)) :: st) h) := e_ia cal rfl
theorem u_W_law_668 : ex cal k_W_law 668 (aQ r :: ls) (st) h = ex cal k_W_law 669 (aQ r :: ls) (aQ r :: st) h := ex_st cal (s := s_ald 0 669) rfl rfl
theorem u_W_law_669 : ex cal k_W_law 669 (x0 :: x1 :: x2 :: aI v :: ls) (st) h = ex cal k_W_law 670 (x0 :: x1 :: x2 :: aI v :: ls) (aI v :: st) h := ex_st cal (s := s_ild 3 670) rfl rfl
theorem u_W_law_670 : ex cal k_W_law 670 (ls) (st) h = ex cal k_W_law 671 (ls) (aI 2 :: st) h := e_push cal rfl
theorem u_W_law_671 : ex cal k_W_law 671 (ls) (aI j :: aI i :: st) h = ex cal k_W_law 672 (ls) (aI (i + j) :: st) h := e_bin cal rfl
theorem u_W_law_672 : ex cal k_W_law 672 (ls) (aI i :: aQ (some a) :: st) h = gA h a i (ex cal k_W_law 673 (ls) (aI (ai h a (wr i)) :: st) h) := e_ia cal rfl
theorem u_W_law_673 : ex cal k_W_law 673 (aQ r :: ls) (st) h = ex cal k_W_law 674 (aQ r :: ls) (aQ r :: st) h := ex_st cal (s := s_ald 0 674) rfl rfl
theorem u_W_law_674 : ex cal k_W_law 674 (x0 :: x1 :: x2 :: aI v :: ls) (st) h = ex cal k_W_law 675 (x0 :: x1 :: x2 :: aI v :: ls) (aI v :: st) h := ex_st cal (s := s_ild 3 675) rfl rfl
theorem u_W_law_675 : ex cal k_W_law 675 (ls) (st) h = ex cal k_W_law 676 (ls) (aI 3 :: st) h := e_push cal rfl
theorem u_W_law_676 : ex cal k_W_law 676 (ls) (aI j :: aI i :: st) h = ex cal k_W_law 677 (ls) (aI (i + j) :: st) h := e_bin cal rfl
theorem u_W_law_677 : ex cal k_W_law 677 (ls) (aI i :: aQ (some a) :: st) h = gA h a i (ex cal k_W_law 678 (ls) (aI (ai h a (wr i)) :: st) h) := e_ia cal rfl
theorem u_W_law_678 (hl : Nat.ble st.length 4 = true) : ex cal k_W_law 678 (ls) (aI z2 :: aI z1 :: aI z0 :: aQ (some a) :: st) h = gO h a 10 (kk cal k_W_law 681 ls st (cal M_R_points [aQ (some a), aI z0, aI z1, aI z2] h)) := e_callV cal (ci := 10) (as := [aI z2, aI z1, aI z0]) rfl (by decide) rfl (Nat.le_of_ble_eq_true hl)
theorem u_W_law_681 : ex cal k_W_law 681 (ls) (aI j :: aI i :: st) h = if wr i = wr j then ex cal k_W_law 1141 (ls) (st) h else ex cal k_W_law 684 (ls) (st) h := e_iceq cal rfl
theorem u_W_law_684 : ex cal k_W_law 684 (ls) (st) h = ex cal k_W_law 685 (ls) (aI 0 :: st) h := e_push cal rfl
theorem u_W_law_685 (hv : v = 0 ∨ v = 1) : ex cal k_W_law 685 (ls) ([aI v]) h = some (some (aI v), h) := e_ret22 rfl hv
theorem u_W_law_686 : ex cal k_W_law 686 (x0 :: aQ r :: ls) (st) h = ex cal k_W_law 687 (x0 :: aQ r :: ls) (aQ r :: st) h := ex_st cal (s := s_ald 1 687) rfl rfl
theorem u_W_law_687 : ex cal k_W_law 687 (aQ r :: ls) (st) h = ex cal k_W_law 688 (aQ r :: ls) (aQ r :: st) h := ex_st cal (s := s_ald 0 688) rfl rfl
theorem u_W_law_688 : ex cal k_W_law 688 (x0 :: x1 :: x2 :: aI v :: ls) (st) h = ex cal k_W_law 689 (x0 :: x1 :: x2 :: aI v :: ls) (aI v :: st) h := ex_st cal (s := s_ild 3 689) rfl rfl
theorem u_W_law_689 : ex cal k_W_law 689 (ls) (st) h = ex cal k_W_law 690 (ls) (aI 1 :: st) h := e_push cal rfl
theorem u_W_law_690 : ex cal k_W_law 690 (ls) (aI j :: aI i :: st) h = ex cal k_W_law 691 (ls) (aI (i + j) :: st) h := e_bin cal rfl
theorem u_W_law_691 : ex cal k_W_law 691 (ls) (aI i :: aQ (some a) :: st) h = gA h a i (ex cal k_W_law 692 (ls) (aI (ai h a (wr i)) :: st) h) := e_ia cal rfl
theorem u_W_law_692 : ex cal k_W_law 692 (aQ r :: ls) (st) h = ex cal k_W_law 693 (aQ r :: ls) (aQ r :: st) h := ex_st cal (s := s_ald 0 693) rfl rfl
theorem u_W_law_693 : ex cal k_W_law 693 (x0 :: x1 :: x2 :: aI v :: ls) (st) h = ex cal k_W_law 694 (x0 :: x1 :: x2 :: aI v :: ls) (aI v :: st) h := ex_st cal (s := s_ild 3 694) rfl rfl
theorem u_W_law_694 : ex cal k_W_law 694 (ls) (st) h = ex cal k_W_law 695 (ls) (aI 2 :: st) h := e_push cal rfl
theorem u_W_law_695 : ex cal k_W_law 695 (ls) (aI j :: aI i :: st) h = ex cal k_W_law 696 (ls) (aI (i + j) :: st) h := e_bin cal rfl
theorem u_W_law_696 : ex cal k_W_law 696 (ls) (aI i :: aQ (some a) :: st) h = gA h a i (ex cal k_W_law 697 (ls) (aI (ai h a (wr i)) :: st) h) := e_ia cal rfl
theorem u_W_law_697 (hl : Nat.ble st.length 4 = true) : ex cal k_W_law 697 (ls) (aI z1 :: aI z0 :: aQ (some a) :: st) h = gO h a 9 (kk cal k_W_law 700 ls st (cal M_C_knows [aQ (some a), aI z0, aI z1] h)) := e_callV cal (ci := 9) (as := [aI z1, aI z0]) rfl (by decide) rfl (Nat.le_of_ble_eq_true hl)
theorem u_W_law_700 : ex cal k_W_law 700 (x0 :: x1 :: aQ r :: ls) (st) h = ex cal k_W_law 701 (x0 :: x1 :: aQ r :: ls) (aQ r :: st) h := ex_st cal (s := s_ald 2 701) rfl rfl
theorem u_W_law_701 : ex cal k_W_law 701 (aQ r :: ls) (st) h = ex cal k_W_law 702 (aQ r :: ls) (aQ r :: st) h := ex_st cal (s := s_ald 0 702) rfl rfl
theorem u_W_law_702 : ex cal k_W_law 702 (x0 :: x1 :: x2 :: aI v :: ls) (st) h = ex cal k_W_law 703 (x0 :: x1 :: x2 :: aI v :: ls) (aI v :: st) h := ex_st cal (s := s_ild 3 703) rfl rfl
theorem u_W_law_703 : ex cal k_W_law 703 (ls) (st) h = ex cal k_W_law 704 (ls) (aI 1 :: st) h := e_push cal rfl
theorem u_W_law_704 : ex cal k_W_law 704 (ls) (aI j :: aI i :: st) h = ex cal k_W_law 705 (ls) (aI (i + j) :: st) h := e_bin cal rfl
theorem u_W_law_705 : ex cal k_W_law 705 (ls) (aI i :: aQ (some a) :: st) h = gA h a i (ex cal k_W_law 706 (ls) (aI (ai h a (wr i)) :: st) h) := e_ia cal rfl
theorem u_W_law_706 : ex cal k_W_law 706 (aQ r :: ls) (st) h = ex cal k_W_law 707 (aQ r :: ls) (aQ r :: st) h := ex_st cal (s := s_ald 0 707) rfl rfl
theorem u_W_law_707 : ex cal k_W_law 707 (x0 :: x1 :: x2 :: aI v :: ls) (st) h = ex cal k_W_law 708 (x0 :: x1 :: x2 :: aI v :: ls) (aI v :: st) h := ex_st cal (s := s_ild 3 708) rfl rfl
theorem u_W_law_708 : ex cal k_W_law 708 (ls) (st) h = ex cal k_W_law 709 (ls) (aI 2 :: st) h := e_push cal rfl
theorem u_W_law_709 : ex cal k_W_law 709 (ls) (aI j :: aI i :: st) h = ex cal k_W_law 710 (ls) (aI (i + j) :: st) h := e_bin cal rfl
theorem u_W_law_710 : ex cal k_W_law 710 (ls) (aI i :: aQ (some a) :: st) h = gA h a i (ex cal k_W_law 711 (ls) (aI (ai h a (wr i)) :: st) h) := e_ia cal rfl
theorem u_W_law_711 (hl : Nat.ble st.length 4 = true) : ex cal k_W_law 711 (ls) (aI z1 :: aI z0 :: aQ (some a) :: st) h = gO h a 10 (kk cal k_W_law 714 ls st (cal M_R_knows [aQ (some a), aI z0, aI z1] h)) := e_callV cal (ci := 10) (as := [aI z1, aI z0]) rfl (by decide) rfl (Nat.le_of_ble_eq_true hl)
theorem u_W_law_714 : ex cal k_W_law 714 (ls) (aI j :: aI i :: st) h = if wr i = wr j then ex cal k_W_law 1141 (ls) (st) h else ex cal k_W_law 717 (ls) (st) h := e_iceq cal rfl
theorem u_W_law_717 : ex cal k_W_law 717 (ls) (st) h = ex cal k_W_law 718 (ls) (aI 0 :: st) h := e_push cal rfl
theorem u_W_law_718 (hv : v = 0 ∨ v = 1) : ex cal k_W_law 718 (ls) ([aI v]) h = some (some (aI v), h) := e_ret22 rfl hv
theorem u_W_law_719 : ex cal k_W_law 719 (x0 :: aQ r :: ls) (st) h = ex cal k_W_law 720 (x0 :: aQ r :: ls) (aQ r :: st) h := ex_st cal (s := s_ald 1 720) rfl rfl
theorem u_W_law_720 : ex cal k_W_law 720 (aQ r :: ls) (st) h = ex cal k_W_law 721 (aQ r :: ls) (aQ r :: st) h := ex_st cal (s := s_ald 0 721) rfl rfl
theorem u_W_law_721 : ex cal k_W_law 721 (x0 :: x1 :: x2 :: aI v :: ls) (st) h = ex cal k_W_law 722 (x0 :: x1 :: x2 :: aI v :: ls) (aI v :: st) h := ex_st cal (s := s_ild 3 722) rfl rfl
theorem u_W_law_722 : ex cal k_W_law 722 (ls) (st) h = ex cal k_W_law 723 (ls) (aI 1 :: st) h := e_push cal rfl
theorem u_W_law_723 : ex cal k_W_law 723 (ls) (aI j :: aI i :: st) h = ex cal k_W_law 724 (ls) (aI (i + j) :: st) h := e_bin cal rfl
theorem u_W_law_724 : ex cal k_W_law 724 (ls) (aI i :: aQ (some a) :: st) h = gA h a i (ex cal k_W_law 725 (ls) (aI (ai h a (wr i)) :: st) h) := e_ia cal rfl
theorem u_W_law_725 : ex cal k_W_law 725 (aQ r :: ls) (st) h = ex cal k_W_law 726 (aQ r :: ls) (aQ r :: st) h := ex_st cal (s := s_ald 0 726) rfl rfl
theorem u_W_law_726 : ex cal k_W_law 726 (x0 :: x1 :: x2 :: aI v :: ls) (st) h = ex cal k_W_law 727 (x0 :: x1 :: x2 :: aI v :: ls) (aI v :: st) h := ex_st cal (s := s_ild 3 727) rfl rfl
theorem u_W_law_727 : ex cal k_W_law 727 (ls) (st) h = ex cal k_W_law 728 (ls) (aI 2 :: st) h := e_push cal rfl
theorem u_W_law_728 : ex cal k_W_law 728 (ls) (aI j :: aI i :: st) h = ex cal k_W_law 729 (ls) (aI (i + j) :: st) h := e_bin cal rfl
theorem u_W_law_729 : ex cal k_W_law 729 (ls) (aI i :: aQ (some a) :: st) h = gA h a i (ex cal k_W_law 730 (ls) (aI (ai h a (wr i)) :: st) h) := e_ia cal rfl
theorem u_W_law_730 (hl : Nat.ble st.length 4 = true) : ex cal k_W_law 730 (ls) (aI z1 :: aI z0 :: aQ (some a) :: st) h = gO h a 9 (kk cal k_W_law 733 ls st (cal M_C_able [aQ (some a), aI z0, aI z1] h)) := e_callV cal (ci := 9) (as := [aI z1, aI z0]) rfl (by decide) rfl (Nat.le_of_ble_eq_true hl)
theorem u_W_law_733 : ex cal k_W_law 733 (x0 :: x1 :: aQ r :: ls) (st) h = ex cal k_W_law 734 (x0 :: x1 :: aQ r :: ls) (aQ r :: st) h := ex_st cal (s := s_ald 2 734) rfl rfl
theorem u_W_law_734 : ex cal k_W_law 734 (aQ r :: ls) (st) h = ex cal k_W_law 735 (aQ r :: ls) (aQ r :: st) h := ex_st cal (s := s_ald 0 735) rfl rfl
theorem u_W_law_735 : ex cal k_W_law 735 (x0 :: x1 :: x2 :: aI v :: ls) (st) h = ex cal k_W_law 736 (x0 :: x1 :: x2 :: aI v :: ls) (aI v :: st) h := ex_st cal (s := s_ild 3 736) rfl rfl
theorem u_W_law_736 : ex cal k_W_law 736 (ls) (st) h = ex cal k_W_law 737 (ls) (aI 1 :: st) h := e_push cal rfl
theorem u_W_law_737 : ex cal k_W_law 737 (ls) (aI j :: aI i :: st) h = ex cal k_W_law 738 (ls) (aI (i + j) :: st) h := e_bin cal rfl
theorem u_W_law_738 : ex cal k_W_law 738 (ls) (aI i :: aQ (some a) :: st) h = gA h a i (ex cal k_W_law 739 (ls) (aI (ai h a (wr i)) :: st) h) := e_ia cal rfl
theorem u_W_law_739 : ex cal k_W_law 739 (aQ r :: ls) (st) h = ex cal k_W_law 740 (aQ r :: ls) (aQ r :: st) h := ex_st cal (s := s_ald 0 740) rfl rfl
theorem u_W_law_740 : ex cal k_W_law 740 (x0 :: x1 :: x2 :: aI v :: ls) (st) h = ex cal k_W_law 741 (x0 :: x1 :: x2 :: aI v :: ls) (aI v :: st) h := ex_st cal (s := s_ild 3 741) rfl rfl
theorem u_W_law_741 : ex cal k_W_law 741 (ls) (st) h = ex cal k_W_law 742 (ls) (aI 2 :: st) h := e_push cal rfl
theorem u_W_law_742 : ex cal k_W_law 742 (ls) (aI j :: aI i :: st) h = ex cal k_W_law 743 (ls) (aI (i + j) :: st) h := e_bin cal rfl
theorem u_W_law_743 : ex cal k_W_law 743 (ls) (aI i :: aQ (some a) :: st) h = gA h a i (ex cal k_W_law 744 (ls) (aI (ai h a (wr i)) :: st) h) := e_ia cal rfl
theorem u_W_law_744 (hl : Nat.ble st.length 4 = true) : ex cal k_W_law 744 (ls) (aI z1 :: aI z0 :: aQ (some a) :: st) h = gO h a 10 (kk cal k_W_law 747 ls st (cal M_R_able [aQ (some a), aI z0, aI z1] h)) := e_callV cal (ci := 10) (as := [aI z1, aI z0]) rfl (by decide) rfl (Nat.le_of_ble_eq_true hl)
theorem u_W_law_747 : ex cal k_W_law 747 (ls) (aI j :: aI i :: st) h = if wr i = wr j then ex cal k_W_law 1141 (ls) (st) h else ex cal k_W_law 750 (ls) (st) h := e_iceq cal rfl
theorem u_W_law_750 : ex cal k_W_law 750 (ls) (st) h = ex cal k_W_law 751 (ls) (aI 0 :: st) h := e_push cal rfl
theorem u_W_law_751 (hv : v = 0 ∨ v = 1) : ex cal k_W_law 751 (ls) ([aI v]) h = some (some (aI v), h) := e_ret22 rfl hv
theorem u_W_law_752 : ex cal k_W_law 752 (x0 :: aQ r :: ls) (st) h = ex cal k_W_law 753 (x0 :: aQ r :: ls) (aQ r :: st) h := ex_st cal (s := s_ald 1 753) rfl rfl
theorem u_W_law_753 : ex cal k_W_law 753 (aQ r :: ls) (st) h = ex cal k_W_law 754 (aQ r :: ls) (aQ r :: st) h := ex_st cal (s := s_ald 0 754) rfl rfl
theorem u_W_law_754 : ex cal k_W_law 754 (x0 :: x1 :: x2 :: aI v :: ls) (st) h = ex cal k_W_law 755 (x0 :: x1 :: x2 :: aI v :: ls) (aI v :: st) h := ex_st cal (s := s_ild 3 755) rfl rfl
theorem u_W_law_755 : ex cal k_W_law 755 (ls) (st) h = ex cal k_W_law 756 (ls) (aI 1 :: st) h := e_push cal rfl
theorem u_W_law_756 : ex cal k_W_law 756 (ls) (aI j :: aI i :: st) h = ex cal k_W_law 757 (ls) (aI (i + j) :: st) h := e_bin cal rfl
theorem u_W_law_757 : ex cal k_W_law 757 (ls) (aI i :: aQ (some a) :: st) h = gA h a i (ex cal k_W_law 758 (ls) (aI (ai h a (wr i)) :: st) h) := e_ia cal rfl
theorem u_W_law_758 (hl : Nat.ble st.length 4 = true) : ex cal k_W_law 758 (ls) (aI z0 :: aQ (some a) :: st) h = gO h a 9 (kk cal k_W_law 761 ls st (cal M_C_lost [aQ (some a), aI z0] h)) := e_callV cal (ci := 9) (as := [aI z0]) rfl (by decide) rfl (Nat.le_of_ble_eq_true hl)
theorem u_W_law_761 : ex cal k_W_law 761 (x0 :: x1 :: aQ r :: ls) (st) h = ex cal k_W_law 762 (x0 :: x1 :: aQ r :: ls) (aQ r :: st) h := ex_st cal (s := s_ald 2 762) rfl rfl
theorem u_W_law_762 : ex cal k_W_law 762 (aQ r :: ls) (st) h = ex cal k_W_law 763 (aQ r :: ls) (aQ r :: st) h := ex_st cal (s := s_ald 0 763) rfl rfl
theorem u_W_law_763 : ex cal k_W_law 763 (x0 :: x1 :: x2 :: aI v :: ls) (st) h = ex cal k_W_law 764 (x0 :: x1 :: x2 :: aI v :: ls) (aI v :: st) h := ex_st cal (s := s_ild 3 764) rfl rfl
theorem u_W_law_764 : ex cal k_W_law 764 (ls) (st) h = ex cal k_W_law 765 (ls) (aI 1 :: st) h := e_push cal rfl
theorem u_W_law_765 : ex cal k_W_law 765 (ls) (aI j :: aI i :: st) h = ex cal k_W_law 766 (ls) (aI (i + j) :: st) h := e_bin cal rfl
theorem u_W_law_766 : ex cal k_W_law 766 (ls) (aI i :: aQ (some a) :: st) h = gA h a i (ex cal k_W_law 767 (ls) (aI (ai h a (wr i)) :: st) h) := e_ia cal rfl
theorem u_W_law_767 (hl : Nat.ble st.length 4 = true) : ex cal k_W_law 767 (ls) (aI z0 :: aQ (some a) :: st) h = gO h a 10 (kk cal k_W_law 770 ls st (cal M_R_lost [aQ (some a), aI z0] h)) := e_callV cal (ci := 10) (as := [aI z0]) rfl (by decide) rfl (Nat.le_of_ble_eq_true hl)
theorem u_W_law_770 : ex cal k_W_law 770 (ls) (aI j :: aI i :: st) h = if wr i = wr j then ex cal k_W_law 1141 (ls) (st) h else ex cal k_W_law 773 (ls) (st) h := e_iceq cal rfl
theorem u_W_law_773 : ex cal k_W_law 773 (ls) (st) h = ex cal k_W_law 774 (ls) (aI 0 :: st) h := e_push cal rfl
theorem u_W_law_774 (hv : v = 0 ∨ v = 1) : ex cal k_W_law 774 (ls) ([aI v]) h = some (some (aI v), h) := e_ret22 rfl hv
theorem u_W_law_775 : ex cal k_W_law 775 (x0 :: aQ r :: ls) (st) h = ex cal k_W_law 776 (x0 :: aQ r :: ls) (aQ r :: st) h := ex_st cal (s := s_ald 1 776) rfl rfl
theorem u_W_law_776 : ex cal k_W_law 776 (aQ r :: ls) (st) h = ex cal k_W_law 777 (aQ r :: ls) (aQ r :: st) h := ex_st cal (s := s_ald 0 777) rfl rfl
theorem u_W_law_777 : ex cal k_W_law 777 (x0 :: x1 :: x2 :: aI v :: ls) (st) h = ex cal k_W_law 778 (x0 :: x1 :: x2 :: aI v :: ls) (aI v :: st) h := ex_st cal (s := s_ild 3 778) rfl rfl
theorem u_W_law_778 : ex cal k_W_law 778 (ls) (st) h = ex cal k_W_law 779 (ls) (aI 1 :: st) h := e_push cal rfl
theorem u_W_law_779 : ex cal k_W_law 779 (ls) (aI j :: aI i :: st) h = ex cal k_W_law 780 (ls) (aI (i + j) :: st) h := e_bin cal rfl
theorem u_W_law_780 : ex cal k_W_law 780 (ls) (aI i :: aQ (some a) :: st) h = gA h a i (ex cal k_W_law 781 (ls) (aI (ai h a (wr i)) :: st) h) := e_ia cal rfl
theorem u_W_law_781 (hl : Nat.ble st.length 4 = true) : ex cal k_W_law 781 (ls) (aI z0 :: aQ (some a) :: st) h = gO h a 9 (kk cal k_W_law 784 ls st (cal M_C_lone [aQ (some a), aI z0] h)) := e_callV cal (ci := 9) (as := [aI z0]) rfl (by decide) rfl (Nat.le_of_ble_eq_true hl)
theorem u_W_law_784 : ex cal k_W_law 784 (x0 :: x1 :: aQ r :: ls) (st) h = ex cal k_W_law 785 (x0 :: x1 :: aQ r :: ls) (aQ r :: st) h := ex_st cal (s := s_ald 2 785) rfl rfl
theorem u_W_law_785 : ex cal k_W_law 785 (aQ r :: ls) (st) h = ex cal k_W_law 786 (aQ r :: ls) (aQ r :: st) h := ex_st cal (s := s_ald 0 786) rfl rfl
theorem u_W_law_786 : ex cal k_W_law 786 (x0 :: x1 :: x2 :: aI v :: ls) (st) h = ex cal k_W_law 787 (x0 :: x1 :: x2 :: aI v :: ls) (aI v :: st) h := ex_st cal (s := s_ild 3 787) rfl rfl
theorem u_W_law_787 : ex cal k_W_law 787 (ls) (st) h = ex cal k_W_law 788 (ls) (aI 1 :: st) h := e_push cal rfl
theorem u_W_law_788 : ex cal k_W_law 788 (ls) (aI j :: aI i :: st) h = ex cal k_W_law 789 (ls) (aI (i + j) :: st) h := e_bin cal rfl
theorem u_W_law_789 : ex cal k_W_law 789 (ls) (aI i :: aQ (some a) :: st) h = gA h a i (ex cal k_W_law 790 (ls) (aI (ai h a (wr i)) :: st) h) := e_ia cal rfl
theorem u_W_law_790 (hl : Nat.ble st.length 4 = true) : ex cal k_W_law 790 (ls) (aI z0 :: aQ (some a) :: st) h = gO h a 10 (kk cal k_W_law 793 ls st (cal M_R_lone [aQ (some a), aI z0] h)) := e_callV cal (ci := 10) (as := [aI z0]) rfl (by decide) rfl (Nat.le_of_ble_eq_true hl)
theorem u_W_law_793 : ex cal k_W_law 793 (ls) (aI j :: aI i :: st) h = if wr i = wr j then ex cal k_W_law 1141 (ls) (st) h else ex cal k_W_law 796 (ls) (st) h := e_iceq cal rfl
theorem u_W_law_796 : ex cal k_W_law 796 (ls) (st) h = ex cal k_W_law 797 (ls) (aI 0 :: st) h := e_push cal rfl
theorem u_W_law_797 (hv : v = 0 ∨ v = 1) : ex cal k_W_law 797 (ls) ([aI v]) h = some (some (aI v), h) := e_ret22 rfl hv
theorem u_W_law_798 : ex cal k_W_law 798 (x0 :: aQ r :: ls) (st) h = ex cal k_W_law 799 (x0 :: aQ r :: ls) (aQ r :: st) h := ex_st cal (s := s_ald 1 799) rfl rfl
theorem u_W_law_799 (hl : Nat.ble st.length 4 = true) : ex cal k_W_law 799 (ls) (aQ (some a) :: st) h = gO h a 9 (kk cal k_W_law 802 ls st (cal M_C_cover [aQ (some a)] h)) := e_callV cal (ci := 9) (as := []) rfl (by decide) rfl (Nat.le_of_ble_eq_true hl)
theorem u_W_law_802 : ex cal k_W_law 802 (x0 :: x1 :: aQ r :: ls) (st) h = ex cal k_W_law 803 (x0 :: x1 :: aQ r :: ls) (aQ r :: st) h := ex_st cal (s := s_ald 2 803) rfl rfl
theorem u_W_law_803 (hl : Nat.ble st.length 4 = true) : ex cal k_W_law 803 (ls) (aQ (some a) :: st) h = gO h a 10 (kk cal k_W_law 806 ls st (cal M_R_cover [aQ (some a)] h)) := e_callV cal (ci := 10) (as := []) rfl (by decide) rfl (Nat.le_of_ble_eq_true hl)
theorem u_W_law_806 : ex cal k_W_law 806 (ls) (aI j :: aI i :: st) h = if wr i = wr j then ex cal k_W_law 1141 (ls) (st) h else ex cal k_W_law 809 (ls) (st) h := e_iceq cal rfl
theorem u_W_law_809 : ex cal k_W_law 809 (ls) (st) h = ex cal k_W_law 810 (ls) (aI 0 :: st) h := e_push cal rfl
theorem u_W_law_810 (hv : v = 0 ∨ v = 1) : ex cal k_W_law 810 (ls) ([aI v]) h = some (some (aI v), h) := e_ret22 rfl hv
theorem u_W_law_811 : ex cal k_W_law 811 (x0 :: aQ r :: ls) (st) h = ex cal k_W_law 812 (x0 :: aQ r :: ls) (aQ r :: st) h := ex_st cal (s := s_ald 1 812) rfl rfl
theorem u_W_law_812 : ex cal k_W_law 812 (aQ r :: ls) (st) h = ex cal k_W_law 813 (aQ r :: ls) (aQ r :: st) h := ex_st cal (s := s_ald 0 813) rfl rfl
theorem u_W_law_813 : ex cal k_W_law 813 (x0 :: x1 :: x2 :: aI v :: ls) (st) h = ex cal k_W_law 814 (x0 :: x1 :: x2 :: aI v :: ls) (aI v :: st) h := ex_st cal (s := s_ild 3 814) rfl rfl
theorem u_W_law_814 : ex cal k_W_law 814 (ls) (st) h = ex cal k_W_law 815 (ls) (aI 1 :: st) h := e_push cal rfl
theorem u_W_law_815 : ex cal k_W_law 815 (ls) (aI j :: aI i :: st) h = ex cal k_W_law 816 (ls) (aI (i + j) :: st) h := e_bin cal rfl
theorem u_W_law_816 : ex cal k_W_law 816 (ls) (aI i :: aQ (some a) :: st) h = gA h a i (ex cal k_W_law 817 (ls) (aI (ai h a (wr i)) :: st) h) := e_ia cal rfl
theorem u_W_law_817 : ex cal k_W_law 817 (aQ r :: ls) (st) h = ex cal k_W_law 818 (aQ r :: ls) (aQ r :: st) h := ex_st cal (s := s_ald 0 818) rfl rfl
theorem u_W_law_818 : ex cal k_W_law 818 (x0 :: x1 :: x2 :: aI v :: ls) (st) h = ex cal k_W_law 819 (x0 :: x1 :: x2 :: aI v :: ls) (aI v :: st) h := ex_st cal (s := s_ild 3 819) rfl rfl
theorem u_W_law_819 : ex cal k_W_law 819 (ls) (st) h = ex cal k_W_law 820 (ls) (aI 2 :: st) h := e_push cal rfl
theorem u_W_law_820 : ex cal k_W_law 820 (ls) (aI j :: aI i :: st) h = ex cal k_W_law 821 (ls) (aI (i + j) :: st) h := e_bin cal rfl
theorem u_W_law_821 : ex cal k_W_law 821 (ls) (aI i :: aQ (some a) :: st) h = gA h a i (ex cal k_W_law 822 (ls) (aI (ai h a (wr i)) :: st) h) := e_ia cal rfl
theorem u_W_law_822 (hl : Nat.ble st.length 4 = true) : ex cal k_W_law 822 (ls) (aI z1 :: aI z0 :: aQ (some a) :: st) h = gO h a 9 (kk cal k_W_law 825 ls st (cal M_C_plan [aQ (some a), aI z0, aI z1] h)) := e_callV cal (ci := 9) (as := [aI z1, aI z0]) rfl (by decide) rfl (Nat.le_of_ble_eq_true hl)
theorem u_W_law_825 : ex cal k_W_law 825 (x0 :: x1 :: aQ r :: ls) (st) h = ex cal k_W_law 826 (x0 :: x1 :: aQ r :: ls) (aQ r :: st) h := ex_st cal (s := s_ald 2 826) rfl rfl
theorem u_W_law_826 : ex cal k_W_law 826 (aQ r :: ls) (st) h = ex cal k_W_law 827 (aQ r :: ls) (aQ r :: st) h := ex_st cal (s := s_ald 0 827) rfl rfl
theorem u_W_law_827 : ex cal k_W_law 827 (x0 :: x1 :: x2 :: aI v :: ls) (st) h = ex cal k_W_law 828 (x0 :: x1 :: x2 :: aI v :: ls) (aI v :: st) h := ex_st cal (s := s_ild 3 828) rfl rfl
theorem u_W_law_828 : ex cal k_W_law 828 (ls) (st) h = ex cal k_W_law 829 (ls) (aI 1 :: st) h := e_push cal rfl
theorem u_W_law_829 : ex cal k_W_law 829 (ls) (aI j :: aI i :: st) h = ex cal k_W_law 830 (ls) (aI (i + j) :: st) h := e_bin cal rfl
theorem u_W_law_830 : ex cal k_W_law 830 (ls) (aI i :: aQ (some a) :: st) h = gA h a i (ex cal k_W_law 831 (ls) (aI (ai h a (wr i)) :: st) h) := e_ia cal rfl
theorem u_W_law_831 : ex cal k_W_law 831 (aQ r :: ls) (st) h = ex cal k_W_law 832 (aQ r :: ls) (aQ r :: st) h := ex_st cal (s := s_ald 0 832) rfl rfl
theorem u_W_law_832 : ex cal k_W_law 832 (x0 :: x1 :: x2 :: aI v :: ls) (st) h = ex cal k_W_law 833 (x0 :: x1 :: x2 :: aI v :: ls) (aI v :: st) h := ex_st cal (s := s_ild 3 833) rfl rfl
theorem u_W_law_833 : ex cal k_W_law 833 (ls) (st) h = ex cal k_W_law 834 (ls) (aI 2 :: st) h := e_push cal rfl
theorem u_W_law_834 : ex cal k_W_law 834 (ls) (aI j :: aI i :: st) h = ex cal k_W_law 835 (ls) (aI (i + j) :: st) h := e_bin cal rfl
theorem u_W_law_835 : ex cal k_W_law 835 (ls) (aI i :: aQ (some a) :: st) h = gA h a i (ex cal k_W_law 836 (ls) (aI (ai h a (wr i)) :: st) h) := e_ia cal rfl
theorem u_W_law_836 (hl : Nat.ble st.length 4 = true) : ex cal k_W_law 836 (ls) (aI z1 :: aI z0 :: aQ (some a) :: st) h = gO h a 10 (kk cal k_W_law 839 ls st (cal M_R_plan [aQ (some a), aI z0, aI z1] h)) := e_callV cal (ci := 10) (as := [aI z1, aI z0]) rfl (by decide) rfl (Nat.le_of_ble_eq_true hl)
theorem u_W_law_839 : ex cal k_W_law 839 (ls) (aI j :: aI i :: st) h = if wr i = wr j then ex cal k_W_law 1141 (ls) (st) h else ex cal k_W_law 842 (ls) (st) h := e_iceq cal rfl
theorem u_W_law_842 : ex cal k_W_law 842 (ls) (st) h = ex cal k_W_law 843 (ls) (aI 0 :: st) h := e_push cal rfl
theorem u_W_law_843 (hv : v = 0 ∨ v = 1) : ex cal k_W_law 843 (ls) ([aI v]) h = some (some (aI v), h) := e_ret22 rfl hv
theorem u_W_law_844 : ex cal k_W_law 844 (x0 :: aQ r :: ls) (st) h = ex cal k_W_law 845 (x0 :: aQ r :: ls) (aQ r :: st) h := ex_st cal (s := s_ald 1 845) rfl rfl
theorem u_W_law_845 : ex cal k_W_law 845 (aQ r :: ls) (st) h = ex cal k_W_law 846 (aQ r :: ls) (aQ r :: st) h := ex_st cal (s := s_ald 0 846) rfl rfl
theorem u_W_law_846 : ex cal k_W_law 846 (x0 :: x1 :: x2 :: aI v :: ls) (st) h = ex cal k_W_law 847 (x0 :: x1 :: x2 :: aI v :: ls) (aI v :: st) h := ex_st cal (s := s_ild 3 847) rfl rfl
theorem u_W_law_847 : ex cal k_W_law 847 (ls) (st) h = ex cal k_W_law 848 (ls) (aI 1 :: st) h := e_push cal rfl
theorem u_W_law_848 : ex cal k_W_law 848 (ls) (aI j :: aI i :: st) h = ex cal k_W_law 849 (ls) (aI (i + j) :: st) h := e_bin cal rfl
theorem u_W_law_849 : ex cal k_W_law 849 (ls) (aI i :: aQ (some a) :: st) h = gA h a i (ex cal k_W_law 850 (ls) (aI (ai h a (wr i)) :: st) h) := e_ia cal rfl
theorem u_W_law_850 : ex cal k_W_law 850 (aQ r :: ls) (st) h = ex cal k_W_law 851 (aQ r :: ls) (aQ r :: st) h := ex_st cal (s := s_ald 0 851) rfl rfl
theorem u_W_law_851 : ex cal k_W_law 851 (x0 :: x1 :: x2 :: aI v :: ls) (st) h = ex cal k_W_law 852 (x0 :: x1 :: x2 :: aI v :: ls) (aI v :: st) h := ex_st cal (s := s_ild 3 852) rfl rfl
theorem u_W_law_852 : ex cal k_W_law 852 (ls) (st) h = ex cal k_W_law 853 (ls) (aI 2 :: st) h := e_push cal rfl
theorem u_W_law_853 : ex cal k_W_law 853 (ls) (aI j :: aI i :: st) h = ex cal k_W_law 854 (ls) (aI (i + j) :: st) h := e_bin cal rfl
theorem u_W_law_854 : ex cal k_W_law 854 (ls) (aI i :: aQ (some a) :: st) h = gA h a i (ex cal k_W_law 855 (ls) (aI (ai h a (wr i)) :: st) h) := e_ia cal rfl
theorem u_W_law_855 (hl : Nat.ble st.length 4 = true) : ex cal k_W_law 855 (ls) (aI z1 :: aI z0 :: aQ (some a) :: st) h = gO h a 9 (kk cal k_W_law 858 ls st (cal M_C_sum [aQ (some a), aI z0, aI z1] h)) := e_callV cal (ci := 9) (as := [aI z1, aI z0]) rfl (by decide) rfl (Nat.le_of_ble_eq_true hl)
theorem u_W_law_858 : ex cal k_W_law 858 (x0 :: x1 :: aQ r :: ls) (st) h = ex cal k_W_law 859 (x0 :: x1 :: aQ r :: ls) (aQ r :: st) h := ex_st cal (s := s_ald 2 859) rfl rfl
theorem u_W_law_859 : ex cal k_W_law 859 (aQ r :: ls) (st) h = ex cal k_W_law 860 (aQ r :: ls) (aQ r :: st) h := ex_st cal (s := s_ald 0 860) rfl rfl
theorem u_W_law_860 : ex cal k_W_law 860 (x0 :: x1 :: x2 :: aI v :: ls) (st) h = ex cal k_W_law 861 (x0 :: x1 :: x2 :: aI v :: ls) (aI v :: st) h := ex_st cal (s := s_ild 3 861) rfl rfl
theorem u_W_law_861 : ex cal k_W_law 861 (ls) (st) h = ex cal k_W_law 862 (ls) (aI 1 :: st) h := e_push cal rfl
theorem u_W_law_862 : ex cal k_W_law 862 (ls) (aI j :: aI i :: st) h = ex cal k_W_law 863 (ls) (aI (i + j) :: st) h := e_bin cal rfl
theorem u_W_law_863 : ex cal k_W_law 863 (ls) (aI i :: aQ (some a) :: st) h = gA h a i (ex cal k_W_law 864 (ls) (aI (ai h a (wr i)) :: st) h) := e_ia cal rfl
theorem u_W_law_864 : ex cal k_W_law 864 (aQ r :: ls) (st) h = ex cal k_W_law 865 (aQ r :: ls) (aQ r :: st) h := ex_st cal (s := s_ald 0 865) rfl rfl
theorem u_W_law_865 : ex cal k_W_law 865 (x0 :: x1 :: x2 :: aI v :: ls) (st) h = ex cal k_W_law 866 (x0 :: x1 :: x2 :: aI v :: ls) (aI v :: st) h := ex_st cal (s := s_ild 3 866) rfl rfl
theorem u_W_law_866 : ex cal k_W_law 866 (ls) (st) h = ex cal k_W_law 867 (ls) (aI 2 :: st) h := e_push cal rfl
theorem u_W_law_867 : ex cal k_W_law 867 (ls) (aI j :: aI i :: st) h = ex cal k_W_law 868 (ls) (aI (i + j) :: st) h := e_bin cal rfl
theorem u_W_law_868 : ex cal k_W_law 868 (ls) (aI i :: aQ (some a) :: st) h = gA h a i (ex cal k_W_law 869 (ls) (aI (ai h a (wr i)) :: st) h) := e_ia cal rfl
theorem u_W_law_869 (hl : Nat.ble st.length 4 = true) : ex cal k_W_law 869 (ls) (aI z1 :: aI z0 :: aQ (some a) :: st) h = gO h a 10 (kk cal k_W_law 872 ls st (cal M_R_sum [aQ (some a), aI z0, aI z1] h)) := e_callV cal (ci := 10) (as := [aI z1, aI z0]) rfl (by decide) rfl (Nat.le_of_ble_eq_true hl)
theorem u_W_law_872 : ex cal k_W_law 872 (ls) (aI j :: aI i :: st) h = if wr i = wr j then ex cal k_W_law 1141 (ls) (st) h else ex cal k_W_law 875 (ls) (st) h := e_iceq cal rfl
theorem u_W_law_875 : ex cal k_W_law 875 (ls) (st) h = ex cal k_W_law 876 (ls) (aI 0 :: st) h := e_push cal rfl
theorem u_W_law_876 (hv : v = 0 ∨ v = 1) : ex cal k_W_law 876 (ls) ([aI v]) h = some (some (aI v), h) := e_ret22 rfl hv
theorem u_W_law_877 : ex cal k_W_law 877 (x0 :: aQ r :: ls) (st) h = ex cal k_W_law 878 (x0 :: aQ r :: ls) (aQ r :: st) h := ex_st cal (s := s_ald 1 878) rfl rfl
theorem u_W_law_878 : ex cal k_W_law 878 (aQ r :: ls) (st) h = ex cal k_W_law 879 (aQ r :: ls) (aQ r :: st) h := ex_st cal (s := s_ald 0 879) rfl rfl
theorem u_W_law_879 : ex cal k_W_law 879 (x0 :: x1 :: x2 :: aI v :: ls) (st) h = ex cal k_W_law 880 (x0 :: x1 :: x2 :: aI v :: ls) (aI v :: st) h := ex_st cal (s := s_ild 3 880) rfl rfl
theorem u_W_law_880 : ex cal k_W_law 880 (ls) (st) h = ex cal k_W_law 881 (ls) (aI 1 :: st) h := e_push cal rfl
theorem u_W_law_881 : ex cal k_W_law 881 (ls) (aI j :: aI i :: st) h = ex cal k_W_law 882 (ls) (aI (i + j) :: st) h := e_bin cal rfl
theorem u_W_law_882 : ex cal k_W_law 882 (ls) (aI i :: aQ (some a) :: st) h = gA h a i (ex cal k_W_law 883 (ls) (aI (ai h a (wr i)) :: st) h) := e_ia cal rfl
theorem u_W_law_883 (hl : Nat.ble st.length 4 = true) : ex cal k_W_law 883 (ls) (aI z0 :: aQ (some a) :: st) h = gO h a 9 (kk cal k_W_law 886 ls st (cal M_C_count [aQ (some a), aI z0] h)) := e_callV cal (ci := 9) (as := [aI z0]) rfl (by decide) rfl (Nat.le_of_ble_eq_true hl)
theorem u_W_law_886 : ex cal k_W_law 886 (x0 :: x1 :: aQ r :: ls) (st) h = ex cal k_W_law 887 (x0 :: x1 :: aQ r :: ls) (aQ r :: st) h := ex_st cal (s := s_ald 2 887) rfl rfl
theorem u_W_law_887 : ex cal k_W_law 887 (aQ r :: ls) (st) h = ex cal k_W_law 888 (aQ r :: ls) (aQ r :: st) h := ex_st cal (s := s_ald 0 888) rfl rfl
theorem u_W_law_888 : ex cal k_W_law 888 (x0 :: x1 :: x2 :: aI v :: ls) (st) h = ex cal k_W_law 889 (x0 :: x1 :: x2 :: aI v :: ls) (aI v :: st) h := ex_st cal (s := s_ild 3 889) rfl rfl
theorem u_W_law_889 : ex cal k_W_law 889 (ls) (st) h = ex cal k_W_law 890 (ls) (aI 1 :: st) h := e_push cal rfl
theorem u_W_law_890 : ex cal k_W_law 890 (ls) (aI j :: aI i :: st) h = ex cal k_W_law 891 (ls) (aI (i + j) :: st) h := e_bin cal rfl
theorem u_W_law_891 : ex cal k_W_law 891 (ls) (aI i :: aQ (some a) :: st) h = gA h a i (ex cal k_W_law 892 (ls) (aI (ai h a (wr i)) :: st) h) := e_ia cal rfl
theorem u_W_law_892 (hl : Nat.ble st.length 4 = true) : ex cal k_W_law 892 (ls) (aI z0 :: aQ (some a) :: st) h = gO h a 10 (kk cal k_W_law 895 ls st (cal M_R_count [aQ (some a), aI z0] h)) := e_callV cal (ci := 10) (as := [aI z0]) rfl (by decide) rfl (Nat.le_of_ble_eq_true hl)
theorem u_W_law_895 : ex cal k_W_law 895 (ls) (aI j :: aI i :: st) h = if wr i = wr j then ex cal k_W_law 1141 (ls) (st) h else ex cal k_W_law 898 (ls) (st) h := e_iceq cal rfl
theorem u_W_law_898 : ex cal k_W_law 898 (ls) (st) h = ex cal k_W_law 899 (ls) (aI 0 :: st) h := e_push cal rfl
theorem u_W_law_899 (hv : v = 0 ∨ v = 1) : ex cal k_W_law 899 (ls) ([aI v]) h = some (some (aI v), h) := e_ret22 rfl hv
theorem u_W_law_900 : ex cal k_W_law 900 (x0 :: aQ r :: ls) (st) h = ex cal k_W_law 901 (x0 :: aQ r :: ls) (aQ r :: st) h := ex_st cal (s := s_ald 1 901) rfl rfl
theorem u_W_law_901 : ex cal k_W_law 901 (aQ r :: ls) (st) h = ex cal k_W_law 902 (aQ r :: ls) (aQ r :: st) h := ex_st cal (s := s_ald 0 902) rfl rfl
theorem u_W_law_902 : ex cal k_W_law 902 (x0 :: x1 :: x2 :: aI v :: ls) (st) h = ex cal k_W_law 903 (x0 :: x1 :: x2 :: aI v :: ls) (aI v :: st) h := ex_st cal (s := s_ild 3 903) rfl rfl
theorem u_W_law_903 : ex cal k_W_law 903 (ls) (st) h = ex cal k_W_law 904 (ls) (aI 1 :: st) h := e_push cal rfl
theorem u_W_law_904 : ex cal k_W_law 904 (ls) (aI j :: aI i :: st) h = ex cal k_W_law 905 (ls) (aI (i + j) :: st) h := e_bin cal rfl
theorem u_W_law_905 : ex cal k_W_law 905 (ls) (aI i :: aQ (some a) :: st) h = gA h a i (ex cal k_W_law 906 (ls) (aI (ai h a (wr i)) :: st) h) := e_ia cal rfl
theorem u_W_law_906 : ex cal k_W_law 906 (aQ r :: ls) (st) h = ex cal k_W_law 907 (aQ r :: ls) (aQ r :: st) h := ex_st cal (s := s_ald 0 907) rfl rfl
theorem u_W_law_907 : ex cal k_W_law 907 (x0 :: x1 :: x2 :: aI v :: ls) (st) h = ex cal k_W_law 908 (x0 :: x1 :: x2 :: aI v :: ls) (aI v :: st) h := ex_st cal (s := s_ild 3 908) rfl rfl
theorem u_W_law_908 : ex cal k_W_law 908 (ls) (st) h = ex cal k_W_law 909 (ls) (aI 2 :: st) h := e_push cal rfl
theorem u_W_law_909 : ex cal k_W_law 909 (ls) (aI j :: aI i :: st) h = ex cal k_W_law 910 (ls) (aI (i + j) :: st) h := e_bin cal rfl
theorem u_W_law_910 : ex cal k_W_law 910 (ls) (aI i :: aQ (some a) :: st) h = gA h a i (ex cal k_W_law 911 (ls) (aI (ai h a (wr i)) :: st) h) := e_ia cal rfl
theorem u_W_law_911 : ex cal k_W_law 911 (aQ r :: ls) (st) h = ex cal k_W_law 912 (aQ r :: ls) (aQ r :: st) h := ex_st cal (s := s_ald 0 912) rfl rfl
theorem u_W_law_912 : ex cal k_W_law 912 (x0 :: x1 :: x2 :: aI v :: ls) (st) h = ex cal k_W_law 913 (x0 :: x1 :: x2 :: aI v :: ls) (aI v :: st) h := ex_st cal (s := s_ild 3 913) rfl rfl
theorem u_W_law_913 : ex cal k_W_law 913 (ls) (st) h = ex cal k_W_law 914 (ls) (aI 3 :: st) h := e_push cal rfl
theorem u_W_law_914 : ex cal k_W_law 914 (ls) (aI j :: aI i :: st) h = ex cal k_W_law 915 (ls) (aI (i + j) :: st) h := e_bin cal rfl
theorem u_W_law_915 : ex cal k_W_law 915 (ls) (aI i :: aQ (some a) :: st) h = gA h a i (ex cal k_W_law 916 (ls) (aI (ai h a (wr i)) :: st) h) := e_ia cal rfl
theorem u_W_law_916 (hl : Nat.ble st.length 4 = true) : ex cal k_W_law 916 (ls) (aI z2 :: aI z1 :: aI z0 :: aQ (some a) :: st) h = gO h a 9 (kk cal k_W_law 919 ls st (cal M_C_act [aQ (some a), aI z0, aI z1, aI z2] h)) := e_callV cal (ci := 9) (as := [aI z2, aI z1, aI z0]) rfl (by decide) rfl (Nat.le_of_ble_eq_true hl)
theorem u_W_law_919 : ex cal k_W_law 919 (x0 :: x1 :: aQ r :: ls) (st) h = ex cal k_W_law 920 (x0 :: x1 :: aQ r :: ls) (aQ r :: st) h := ex_st cal (s := s_ald 2 920) rfl rfl
theorem u_W_law_920 : ex cal k_W_law 920 (aQ r :: ls) (st) h = ex cal k_W_law 921 (aQ r :: ls) (aQ r :: st) h := ex_st cal (s := s_ald 0 921) rfl rfl
theorem u_W_law_921 : ex cal k_W_law 921 (x0 :: x1 :: x2 :: aI v :: ls) (st) h = ex cal k_W_law 922 (x0 :: x1 :: x2 :: aI v :: ls) (aI v :: st) h := ex_st cal (s := s_ild 3 922) rfl rfl
theorem u_W_law_922 : ex cal k_W_law 922 (ls) (st) h = ex cal k_W_law 923 (ls) (aI 1 :: st) h := e_push cal rfl
theorem u_W_law_923 : ex cal k_W_law 923 (ls) (aI j :: aI i :: st) h = ex cal k_W_law 924 (ls) (aI (i + j) :: st) h := e_bin cal rfl
theorem u_W_law_924 : ex cal k_W_law 924 (ls) (aI i :: aQ (some a) :: st) h = gA h a i (ex cal k_W_law 925 (ls) (aI (ai h a (wr i)) :: st) h) := e_ia cal rfl
theorem u_W_law_925 : ex cal k_W_law 925 (aQ r :: ls) (st) h = ex cal k_W_law 926 (aQ r :: ls) (aQ r :: st) h := ex_st cal (s := s_ald 0 926) rfl rfl
theorem u_W_law_926 : ex cal k_W_law 926 (x0 :: x1 :: x2 :: aI v :: ls) (st) h = ex cal k_W_law 927 (x0 :: x1 :: x2 :: aI v :: ls) (aI v :: st) h := ex_st cal (s := s_ild 3 927) rfl rfl
theorem u_W_law_927 : ex cal k_W_law 927 (ls) (st) h = ex cal k_W_law 928 (ls) (aI 2 :: st) h := e_push cal rfl
theorem u_W_law_928 : ex cal k_W_law 928 (ls) (aI j :: aI i :: st) h = ex cal k_W_law 929 (ls) (aI (i + j) :: st) h := e_bin cal rfl
theorem u_W_law_929 : ex cal k_W_law 929 (ls) (aI i :: aQ (some a) :: st) h = gA h a i (ex cal k_W_law 930 (ls) (aI (ai h a (wr i)) :: st) h) := e_ia cal rfl
theorem u_W_law_930 : ex cal k_W_law 930 (aQ r :: ls) (st) h = ex cal k_W_law 931 (aQ r :: ls) (aQ r :: st) h := ex_st cal (s := s_ald 0 931) rfl rfl
theorem u_W_law_931 : ex cal k_W_law 931 (x0 :: x1 :: x2 :: aI v :: ls) (st) h = ex cal k_W_law 932 (x0 :: x1 :: x2 :: aI v :: ls) (aI v :: st) h := ex_st cal (s := s_ild 3 932) rfl rfl
theorem u_W_law_932 : ex cal k_W_law 932 (ls) (st) h = ex cal k_W_law 933 (ls) (aI 3 :: st) h := e_push cal rfl
theorem u_W_law_933 : ex cal k_W_law 933 (ls) (aI j :: aI i :: st) h = ex cal k_W_law 934 (ls) (aI (i + j) :: st) h := e_bin cal rfl
theorem u_W_law_934 : ex cal k_W_law 934 (ls) (aI i :: aQ (some a) :: st) h = gA h a i (ex cal k_W_law 935 (ls) (aI (ai h a (wr i)) :: st) h) := e_ia cal rfl
theorem u_W_law_935 (hl : Nat.ble st.length 4 = true) : ex cal k_W_law 935 (ls) (aI z2 :: aI z1 :: aI z0 :: aQ (some a) :: st) h = gO h a 10 (kk cal k_W_law 938 ls st (cal M_R_act [aQ (some a), aI z0, aI z1, aI z2] h)) := e_callV cal (ci := 10) (as := [aI z2, aI z1, aI z0]) rfl (by decide) rfl (Nat.le_of_ble_eq_true hl)
theorem u_W_law_938 : ex cal k_W_law 938 (ls) (aI j :: aI i :: st) h = if wr i = wr j then ex cal k_W_law 1141 (ls) (st) h else ex cal k_W_law 941 (ls) (st) h := e_iceq cal rfl
theorem u_W_law_941 : ex cal k_W_law 941 (ls) (st) h = ex cal k_W_law 942 (ls) (aI 0 :: st) h := e_push cal rfl
theorem u_W_law_942 (hv : v = 0 ∨ v = 1) : ex cal k_W_law 942 (ls) ([aI v]) h = some (some (aI v), h) := e_ret22 rfl hv
theorem u_W_law_943 : ex cal k_W_law 943 (x0 :: aQ r :: ls) (st) h = ex cal k_W_law 944 (x0 :: aQ r :: ls) (aQ r :: st) h := ex_st cal (s := s_ald 1 944) rfl rfl
theorem u_W_law_944 : ex cal k_W_law 944 (aQ r :: ls) (st) h = ex cal k_W_law 945 (aQ r :: ls) (aQ r :: st) h := ex_st cal (s := s_ald 0 945) rfl rfl
theorem u_W_law_945 : ex cal k_W_law 945 (x0 :: x1 :: x2 :: aI v :: ls) (st) h = ex cal k_W_law 946 (x0 :: x1 :: x2 :: aI v :: ls) (aI v :: st) h := ex_st cal (s := s_ild 3 946) rfl rfl
theorem u_W_law_946 : ex cal k_W_law 946 (ls) (st) h = ex cal k_W_law 947 (ls) (aI 1 :: st) h := e_push cal rfl
theorem u_W_law_947 : ex cal k_W_law 947 (ls) (aI j :: aI i :: st) h = ex cal k_W_law 948 (ls) (aI (i + j) :: st) h := e_bin cal rfl
theorem u_W_law_948 : ex cal k_W_law 948 (ls) (aI i :: aQ (some a) :: st) h = gA h a i (ex cal k_W_law 949 (ls) (aI (ai h a (wr i)) :: st) h) := e_ia cal rfl
theorem u_W_law_949 (hl : Nat.ble st.length 4 = true) : ex cal k_W_law 949 (ls) (aI z0 :: aQ (some a) :: st) h = gO h a 9 (kk cal k_W_law 952 ls st (cal M_C_trace [aQ (some a), aI z0] h)) := e_callV cal (ci := 9) (as := [aI z0]) rfl (by decide) rfl (Nat.le_of_ble_eq_true hl)
theorem u_W_law_952 : ex cal k_W_law 952 (x0 :: x1 :: aQ r :: ls) (st) h = ex cal k_W_law 953 (x0 :: x1 :: aQ r :: ls) (aQ r :: st) h := ex_st cal (s := s_ald 2 953) rfl rfl
theorem u_W_law_953 : ex cal k_W_law 953 (aQ r :: ls) (st) h = ex cal k_W_law 954 (aQ r :: ls) (aQ r :: st) h := ex_st cal (s := s_ald 0 954) rfl rfl
theorem u_W_law_954 : ex cal k_W_law 954 (x0 :: x1 :: x2 :: aI v :: ls) (st) h = ex cal k_W_law 955 (x0 :: x1 :: x2 :: aI v :: ls) (aI v :: st) h := ex_st cal (s := s_ild 3 955) rfl rfl
theorem u_W_law_955 : ex cal k_W_law 955 (ls) (st) h = ex cal k_W_law 956 (ls) (aI 1 :: st) h := e_push cal rfl
theorem u_W_law_956 : ex cal k_W_law 956 (ls) (aI j :: aI i :: st) h = ex cal k_W_law 957 (ls) (aI (i + j) :: st) h := e_bin cal rfl
theorem u_W_law_957 : ex cal k_W_law 957 (ls) (aI i :: aQ (some a) :: st) h = gA h a i (ex cal k_W_law 958 (ls) (aI (ai h a (wr i)) :: st) h) := e_ia cal rfl
theorem u_W_law_958 (hl : Nat.ble st.length 4 = true) : ex cal k_W_law 958 (ls) (aI z0 :: aQ (some a) :: st) h = gO h a 10 (kk cal k_W_law 961 ls st (cal M_R_trace [aQ (some a), aI z0] h)) := e_callV cal (ci := 10) (as := [aI z0]) rfl (by decide) rfl (Nat.le_of_ble_eq_true hl)
theorem u_W_law_961 : ex cal k_W_law 961 (ls) (aI j :: aI i :: st) h = if wr i = wr j then ex cal k_W_law 1141 (ls) (st) h else ex cal k_W_law 964 (ls) (st) h := e_iceq cal rfl
theorem u_W_law_964 : ex cal k_W_law 964 (ls) (st) h = ex cal k_W_law 965 (ls) (aI 0 :: st) h := e_push cal rfl
theorem u_W_law_965 (hv : v = 0 ∨ v = 1) : ex cal k_W_law 965 (ls) ([aI v]) h = some (some (aI v), h) := e_ret22 rfl hv
theorem u_W_law_966 : ex cal k_W_law 966 (x0 :: aQ r :: ls) (st) h = ex cal k_W_law 967 (x0 :: aQ r :: ls) (aQ r :: st) h := ex_st cal (s := s_ald 1 967) rfl rfl
theorem u_W_law_967 : ex cal k_W_law 967 (aQ r :: ls) (st) h = ex cal k_W_law 968 (aQ r :: ls) (aQ r :: st) h := ex_st cal (s := s_ald 0 968) rfl rfl
theorem u_W_law_968 : ex cal k_W_law 968 (x0 :: x1 :: x2 :: aI v :: ls) (st) h = ex cal k_W_law 969 (x0 :: x1 :: x2 :: aI v :: ls) (aI v :: st) h := ex_st cal (s := s_ild 3 969) rfl rfl
theorem u_W_law_969 : ex cal k_W_law 969 (ls) (st) h = ex cal k_W_law 970 (ls) (aI 1 :: st) h := e_push cal rfl
theorem u_W_law_970 : ex cal k_W_law 970 (ls) (aI j :: aI i :: st) h = ex cal k_W_law 971 (ls) (aI (i + j) :: st) h := e_bin cal rfl
theorem u_W_law_971 : ex cal k_W_law 971 (ls) (aI i :: aQ (some a) :: st) h = gA h a i (ex cal k_W_law 972 (ls) (aI (ai h a (wr i)) :: st) h) := e_ia cal rfl
theorem u_W_law_972 : ex cal k_W_law 972 (aQ r :: ls) (st) h = ex cal k_W_law 973 (aQ r :: ls) (aQ r :: st) h := ex_st cal (s := s_ald 0 973) rfl rfl
theorem u_W_law_973 : ex cal k_W_law 973 (x0 :: x1 :: x2 :: aI v :: ls) (st) h = ex cal k_W_law 974 (x0 :: x1 :: x2 :: aI v :: ls) (aI v :: st) h := ex_st cal (s := s_ild 3 974) rfl rfl
theorem u_W_law_974 : ex cal k_W_law 974 (ls) (st) h = ex cal k_W_law 975 (ls) (aI 2 :: st) h := e_push cal rfl
theorem u_W_law_975 : ex cal k_W_law 975 (ls) (aI j :: aI i :: st) h = ex cal k_W_law 976 (ls) (aI (i + j) :: st) h := e_bin cal rfl
theorem u_W_law_976 : ex cal k_W_law 976 (ls) (aI i :: aQ (some a) :: st) h = gA h a i (ex cal k_W_law 977 (ls) (aI (ai h a (wr i)) :: st) h) := e_ia cal rfl
theorem u_W_law_977 : ex cal k_W_law 977 (aQ r :: ls) (st) h = ex cal k_W_law 978 (aQ r :: ls) (aQ r :: st) h := ex_st cal (s := s_ald 0 978) rfl rfl
theorem u_W_law_978 : ex cal k_W_law 978 (x0 :: x1 :: x2 :: aI v :: ls) (st) h = ex cal k_W_law 979 (x0 :: x1 :: x2 :: aI v :: ls) (aI v :: st) h := ex_st cal (s := s_ild 3 979) rfl rfl
theorem u_W_law_979 : ex cal k_W_law 979 (ls) (st) h = ex cal k_W_law 980 (ls) (aI 3 :: st) h := e_push cal rfl
theorem u_W_law_980 : ex cal k_W_law 980 (ls) (aI j :: aI i :: st) h = ex cal k_W_law 981 (ls) (aI (i + j) :: st) h := e_bin cal rfl
theorem u_W_law_981 : ex cal k_W_law 981 (ls) (aI i :: aQ (some a) :: st) h = gA h a i (ex cal k_W_law 982 (ls) (aI (ai h a (wr i)) :: st) h) := e_ia cal rfl
theorem u_W_law_982 (hl : Nat.ble st.length 4 = true) : ex cal k_W_law 982 (ls) (aI z2 :: aI z1 :: aI z0 :: aQ (some a) :: st) h = gO h a 9 (kk cal k_W_law 985 ls st (cal M_C_sheet [aQ (some a), aI z0, aI z1, aI z2] h)) := e_callV cal (ci := 9) (as := [aI z2, aI z1, aI z0]) rfl (by decide) rfl (Nat.le_of_ble_eq_true hl)
theorem u_W_law_985 : ex cal k_W_law 985 (x0 :: x1 :: aQ r :: ls) (st) h = ex cal k_W_law 986 (x0 :: x1 :: aQ r :: ls) (aQ r :: st) h := ex_st cal (s := s_ald 2 986) rfl rfl
theorem u_W_law_986 : ex cal k_W_law 986 (aQ r :: ls) (st) h = ex cal k_W_law 987 (aQ r :: ls) (aQ r :: st) h := ex_st cal (s := s_ald 0 987) rfl rfl
theorem u_W_law_987 : ex cal k_W_law 987 (x0 :: x1 :: x2 :: aI v :: ls) (st) h = ex cal k_W_law 988 (x0 :: x1 :: x2 :: aI v :: ls) (aI v :: st) h := ex_st cal (s := s_ild 3 988) rfl rfl
theorem u_W_law_988 : ex cal k_W_law 988 (ls) (st) h = ex cal k_W_law 989 (ls) (aI 1 :: st) h := e_push cal rfl
theorem u_W_law_989 : ex cal k_W_law 989 (ls) (aI j :: aI i :: st) h = ex cal k_W_law 990 (ls) (aI (i + j) :: st) h := e_bin cal rfl
theorem u_W_law_990 : ex cal k_W_law 990 (ls) (aI i :: aQ (some a) :: st) h = gA h a i (ex cal k_W_law 991 (ls) (aI (ai h a (wr i)) :: st) h) := e_ia cal rfl
theorem u_W_law_991 : ex cal k_W_law 991 (aQ r :: ls) (st) h = ex cal k_W_law 992 (aQ r :: ls) (aQ r :: st) h := ex_st cal (s := s_ald 0 992) rfl rfl
theorem u_W_law_992 : ex cal k_W_law 992 (x0 :: x1 :: x2 :: aI v :: ls) (st) h = ex cal k_W_law 993 (x0 :: x1 :: x2 :: aI v :: ls) (aI v :: st) h := ex_st cal (s := s_ild 3 993) rfl rfl
theorem u_W_law_993 : ex cal k_W_law 993 (ls) (st) h = ex cal k_W_law 994 (ls) (aI 2 :: st) h := e_push cal rfl
theorem u_W_law_994 : ex cal k_W_law 994 (ls) (aI j :: aI i :: st) h = ex cal k_W_law 995 (ls) (aI (i + j) :: st) h := e_bin cal rfl
theorem u_W_law_995 : ex cal k_W_law 995 (ls) (aI i :: aQ (some a) :: st) h = gA h a i (ex cal k_W_law 996 (ls) (aI (ai h a (wr i)) :: st) h) := e_ia cal rfl
theorem u_W_law_996 : ex cal k_W_law 996 (aQ r :: ls) (st) h = ex cal k_W_law 997 (aQ r :: ls) (aQ r :: st) h := ex_st cal (s := s_ald 0 997) rfl rfl
theorem u_W_law_997 : ex cal k_W_law 997 (x0 :: x1 :: x2 :: aI v :: ls) (st) h = ex cal k_W_law 998 (x0 :: x1 :: x2 :: aI v :: ls) (aI v :: st) h := ex_st cal (s := s_ild 3 998) rfl rfl
theorem u_W_law_998 : ex cal k_W_law 998 (ls) (st) h = ex cal k_W_law 999 (ls) (aI 3 :: st) h := e_push cal rfl
theorem u_W_law_999 : ex cal k_W_law 999 (ls) (aI j :: aI i :: st) h = ex cal k_W_law 1000 (ls) (aI (i + j) :: st) h := e_bin cal rfl
theorem u_W_law_1000 : ex cal k_W_law 1000 (ls) (aI i :: aQ (some a) :: st) h = gA h a i (ex cal k_W_law 1001 (ls) (aI (ai h a (wr i)) :: st) h) := e_ia cal rfl
theorem u_W_law_1001 (hl : Nat.ble st.length 4 = true) : ex cal k_W_law 1001 (ls) (aI z2 :: aI z1 :: aI z0 :: aQ (some a) :: st) h = gO h a 10 (kk cal k_W_law 1004 ls st (cal M_R_sheet [aQ (some a), aI z0, aI z1, aI z2] h)) := e_callV cal (ci := 10) (as := [aI z2, aI z1, aI z0]) rfl (by decide) rfl (Nat.le_of_ble_eq_true hl)
theorem u_W_law_1004 : ex cal k_W_law 1004 (ls) (aI j :: aI i :: st) h = if wr i = wr j then ex cal k_W_law 1141 (ls) (st) h else ex cal k_W_law 1007 (ls) (st) h := e_iceq cal rfl
theorem u_W_law_1007 : ex cal k_W_law 1007 (ls) (st) h = ex cal k_W_law 1008 (ls) (aI 0 :: st) h := e_push cal rfl
theorem u_W_law_1008 (hv : v = 0 ∨ v = 1) : ex cal k_W_law 1008 (ls) ([aI v]) h = some (some (aI v), h) := e_ret22 rfl hv
theorem u_W_law_1009 : ex cal k_W_law 1009 (x0 :: aQ r :: ls) (st) h = ex cal k_W_law 1010 (x0 :: aQ r :: ls) (aQ r :: st) h := ex_st cal (s := s_ald 1 1010) rfl rfl
theorem u_W_law_1010 : ex cal k_W_law 1010 (aQ r :: ls) (st) h = ex cal k_W_law 1011 (aQ r :: ls) (aQ r :: st) h := ex_st cal (s := s_ald 0 1011) rfl rfl
theorem u_W_law_1011 : ex cal k_W_law 1011 (x0 :: x1 :: x2 :: aI v :: ls) (st) h = ex cal k_W_law 1012 (x0 :: x1 :: x2 :: aI v :: ls) (aI v :: st) h := ex_st cal (s := s_ild 3 1012) rfl rfl
theorem u_W_law_1012 : ex cal k_W_law 1012 (ls) (st) h = ex cal k_W_law 1013 (ls) (aI 1 :: st) h := e_push cal rfl
theorem u_W_law_1013 : ex cal k_W_law 1013 (ls) (aI j :: aI i :: st) h = ex cal k_W_law 1014 (ls) (aI (i + j) :: st) h := e_bin cal rfl
theorem u_W_law_1014 : ex cal k_W_law 1014 (ls) (aI i :: aQ (some a) :: st) h = gA h a i (ex cal k_W_law 1015 (ls) (aI (ai h a (wr i)) :: st) h) := e_ia cal rfl
theorem u_W_law_1015 : ex cal k_W_law 1015 (aQ r :: ls) (st) h = ex cal k_W_law 1016 (aQ r :: ls) (aQ r :: st) h := ex_st cal (s := s_ald 0 1016) rfl rfl
theorem u_W_law_1016 : ex cal k_W_law 1016 (x0 :: x1 :: x2 :: aI v :: ls) (st) h = ex cal k_W_law 1017 (x0 :: x1 :: x2 :: aI v :: ls) (aI v :: st) h := ex_st cal (s := s_ild 3 1017) rfl rfl
theorem u_W_law_1017 : ex cal k_W_law 1017 (ls) (st) h = ex cal k_W_law 1018 (ls) (aI 2 :: st) h := e_push cal rfl
theorem u_W_law_1018 : ex cal k_W_law 1018 (ls) (aI j :: aI i :: st) h = ex cal k_W_law 1019 (ls) (aI (i + j) :: st) h := e_bin cal rfl
theorem u_W_law_1019 : ex cal k_W_law 1019 (ls) (aI i :: aQ (some a) :: st) h = gA h a i (ex cal k_W_law 1020 (ls) (aI (ai h a (wr i)) :: st) h) := e_ia cal rfl
theorem u_W_law_1020 : ex cal k_W_law 1020 (aQ r :: ls) (st) h = ex cal k_W_law 1021 (aQ r :: ls) (aQ r :: st) h := ex_st cal (s := s_ald 0 1021) rfl rfl
theorem u_W_law_1021 : ex cal k_W_law 1021 (x0 :: x1 :: x2 :: aI v :: ls) (st) h = ex cal k_W_law 1022 (x0 :: x1 :: x2 :: aI v :: ls) (aI v :: st) h := ex_st cal (s := s_ild 3 1022) rfl rfl
theorem u_W_law_1022 : ex cal k_W_law 1022 (ls) (st) h = ex cal k_W_law 1023 (ls) (aI 3 :: st) h := e_push cal rfl
theorem u_W_law_1023 : ex cal k_W_law 1023 (ls) (aI j :: aI i :: st) h = ex cal k_W_law 1024 (ls) (aI (i + j) :: st) h := e_bin cal rfl
theorem u_W_law_1024 : ex cal k_W_law 1024 (ls) (aI i :: aQ (some a) :: st) h = gA h a i (ex cal k_W_law 1025 (ls) (aI (ai h a (wr i)) :: st) h) := e_ia cal rfl
theorem u_W_law_1025 (hl : Nat.ble st.length 4 = true) : ex cal k_W_law 1025 (ls) (aI z2 :: aI z1 :: aI z0 :: aQ (some a) :: st) h = gO h a 9 (kk cal k_W_law 1028 ls st (cal M_C_cell [aQ (some a), aI z0, aI z1, aI z2] h)) := e_callV cal (ci := 9) (as := [aI z2, aI z1, aI z0]) rfl (by decide) rfl (Nat.le_of_ble_eq_true hl)
theorem u_W_law_1028 : ex cal k_W_law 1028 (x0 :: x1 :: aQ r :: ls) (st) h = ex cal k_W_law 1029 (x0 :: x1 :: aQ r :: ls) (aQ r :: st) h := ex_st cal (s := s_ald 2 1029) rfl rfl
theorem u_W_law_1029 : ex cal k_W_law 1029 (aQ r :: ls) (st) h = ex cal k_W_law 1030 (aQ r :: ls) (aQ r :: st) h := ex_st cal (s := s_ald 0 1030) rfl rfl
theorem u_W_law_1030 : ex cal k_W_law 1030 (x0 :: x1 :: x2 :: aI v :: ls) (st) h = ex cal k_W_law 1031 (x0 :: x1 :: x2 :: aI v :: ls) (aI v :: st) h := ex_st cal (s := s_ild 3 1031) rfl rfl
theorem u_W_law_1031 : ex cal k_W_law 1031 (ls) (st) h = ex cal k_W_law 1032 (ls) (aI 1 :: st) h := e_push cal rfl
theorem u_W_law_1032 : ex cal k_W_law 1032 (ls) (aI j :: aI i :: st) h = ex cal k_W_law 1033 (ls) (aI (i + j) :: st) h := e_bin cal rfl
theorem u_W_law_1033 : ex cal k_W_law 1033 (ls) (aI i :: aQ (some a) :: st) h = gA h a i (ex cal k_W_law 1034 (ls) (aI (ai h a (wr i)) :: st) h) := e_ia cal rfl
theorem u_W_law_1034 : ex cal k_W_law 1034 (aQ r :: ls) (st) h = ex cal k_W_law 1035 (aQ r :: ls) (aQ r :: st) h := ex_st cal (s := s_ald 0 1035) rfl rfl
theorem u_W_law_1035 : ex cal k_W_law 1035 (x0 :: x1 :: x2 :: aI v :: ls) (st) h = ex cal k_W_law 1036 (x0 :: x1 :: x2 :: aI v :: ls) (aI v :: st) h := ex_st cal (s := s_ild 3 1036) rfl rfl
theorem u_W_law_1036 : ex cal k_W_law 1036 (ls) (st) h = ex cal k_W_law 1037 (ls) (aI 2 :: st) h := e_push cal rfl
theorem u_W_law_1037 : ex cal k_W_law 1037 (ls) (aI j :: aI i :: st) h = ex cal k_W_law 1038 (ls) (aI (i + j) :: st) h := e_bin cal rfl
theorem u_W_law_1038 : ex cal k_W_law 1038 (ls) (aI i :: aQ (some a) :: st) h = gA h a i (ex cal k_W_law 1039 (ls) (aI (ai h a (wr i)) :: st) h) := e_ia cal rfl
theorem u_W_law_1039 : ex cal k_W_law 1039 (aQ r :: ls) (st) h = ex cal k_W_law 1040 (aQ r :: ls) (aQ r :: st) h := ex_st cal (s := s_ald 0 1040) rfl rfl
theorem u_W_law_1040 : ex cal k_W_law 1040 (x0 :: x1 :: x2 :: aI v :: ls) (st) h = ex cal k_W_law 1041 (x0 :: x1 :: x2 :: aI v :: ls) (aI v :: st) h := ex_st cal (s := s_ild 3 1041) rfl rfl
theorem u_W_law_1041 : ex cal k_W_law 1041 (ls) (st) h = ex cal k_W_law 1042 (ls) (aI 3 :: st) h := e_push cal rfl
theorem u_W_law_1042 : ex cal k_W_law 1042 (ls) (aI j :: aI i :: st) h = ex cal k_W_law 1043 (ls) (aI (i + j) :: st) h := e_bin cal rfl
theorem u_W_law_1043 : ex cal k_W_law 1043 (ls) (aI i :: aQ (some a) :: st) h = gA h a i (ex cal k_W_law 1044 (ls) (aI (ai h a (wr i)) :: st) h) := e_ia cal rfl
theorem u_W_law_1044 (hl : Nat.ble st.length 4 = true) : ex cal k_W_law 1044 (ls) (aI z2 :: aI z1 :: aI z0 :: aQ (some a) :: st) h = gO h a 10 (kk cal k_W_law 1047 ls st (cal M_R_cell [aQ (some a), aI z0, aI z1, aI z2] h)) := e_callV cal (ci := 10) (as := [aI z2, aI z1, aI z0]) rfl (by decide) rfl (Nat.le_of_ble_eq_true hl)
theorem u_W_law_1047 : ex cal k_W_law 1047 (ls) (aI j :: aI i :: st) h = if wr i = wr j then ex cal k_W_law 1141 (ls) (st) h else ex cal k_W_law 1050 (ls) (st) h := e_iceq cal rfl
theorem u_W_law_1050 : ex cal k_W_law 1050 (ls) (st) h = ex cal k_W_law 1051 (ls) (aI 0 :: st) h := e_push cal rfl
theorem u_W_law_1051 (hv : v = 0 ∨ v = 1) : ex cal k_W_law 1051 (ls) ([aI v]) h = some (some (aI v), h) := e_ret22 rfl hv
theorem u_W_law_1052 : ex cal k_W_law 1052 (x0 :: aQ r :: ls) (st) h = ex cal k_W_law 1053 (x0 :: aQ r :: ls) (aQ r :: st) h := ex_st cal (s := s_ald 1 1053) rfl rfl
theorem u_W_law_1053 : ex cal k_W_law 1053 (aQ r :: ls) (st) h = ex cal k_W_law 1054 (aQ r :: ls) (aQ r :: st) h := ex_st cal (s := s_ald 0 1054) rfl rfl
theorem u_W_law_1054 : ex cal k_W_law 1054 (x0 :: x1 :: x2 :: aI v :: ls) (st) h = ex cal k_W_law 1055 (x0 :: x1 :: x2 :: aI v :: ls) (aI v :: st) h := ex_st cal (s := s_ild 3 1055) rfl rfl
theorem u_W_law_1055 : ex cal k_W_law 1055 (ls) (st) h = ex cal k_W_law 1056 (ls) (aI 1 :: st) h := e_push cal rfl
theorem u_W_law_1056 : ex cal k_W_law 1056 (ls) (aI j :: aI i :: st) h = ex cal k_W_law 1057 (ls) (aI (i + j) :: st) h := e_bin cal rfl
theorem u_W_law_1057 : ex cal k_W_law 1057 (ls) (aI i :: aQ (some a) :: st) h = gA h a i (ex cal k_W_law 1058 (ls) (aI (ai h a (wr i)) :: st) h) := e_ia cal rfl
theorem u_W_law_1058 : ex cal k_W_law 1058 (aQ r :: ls) (st) h = ex cal k_W_law 1059 (aQ r :: ls) (aQ r :: st) h := ex_st cal (s := s_ald 0 1059) rfl rfl
theorem u_W_law_1059 : ex cal k_W_law 1059 (x0 :: x1 :: x2 :: aI v :: ls) (st) h = ex cal k_W_law 1060 (x0 :: x1 :: x2 :: aI v :: ls) (aI v :: st) h := ex_st cal (s := s_ild 3 1060) rfl rfl
theorem u_W_law_1060 : ex cal k_W_law 1060 (ls) (st) h = ex cal k_W_law 1061 (ls) (aI 2 :: st) h := e_push cal rfl
theorem u_W_law_1061 : ex cal k_W_law 1061 (ls) (aI j :: aI i :: st) h = ex cal k_W_law 1062 (ls) (aI (i + j) :: st) h := e_bin cal rfl
theorem u_W_law_1062 : ex cal k_W_law 1062 (ls) (aI i :: aQ (some a) :: st) h = gA h a i (ex cal k_W_law 1063 (ls) (aI (ai h a (wr i)) :: st) h) := e_ia cal rfl
theorem u_W_law_1063 (hl : Nat.ble st.length 4 = true) : ex cal k_W_law 1063 (ls) (aI z1 :: aI z0 :: aQ (some a) :: st) h = gO h a 9 (kk cal k_W_law 1066 ls st (cal M_C_come [aQ (some a), aI z0, aI z1] h)) := e_callV cal (ci := 9) (as := [aI z1, aI z0]) rfl (by decide) rfl (Nat.le_of_ble_eq_true hl)
theorem u_W_law_1066 : ex cal k_W_law 1066 (x0 :: x1 :: aQ r :: ls) (st) h = ex cal k_W_law 1067 (x0 :: x1 :: aQ r :: ls) (aQ r :: st) h := ex_st cal (s := s_ald 2 1067) rfl rfl
theorem u_W_law_1067 : ex cal k_W_law 1067 (aQ r :: ls) (st) h = ex cal k_W_law 1068 (aQ r :: ls) (aQ r :: st) h := ex_st cal (s := s_ald 0 1068) rfl rfl
theorem u_W_law_1068 : ex cal k_W_law 1068 (x0 :: x1 :: x2 :: aI v :: ls) (st) h = ex cal k_W_law 1069 (x0 :: x1 :: x2 :: aI v :: ls) (aI v :: st) h := ex_st cal (s := s_ild 3 1069) rfl rfl
theorem u_W_law_1069 : ex cal k_W_law 1069 (ls) (st) h = ex cal k_W_law 1070 (ls) (aI 1 :: st) h := e_push cal rfl
theorem u_W_law_1070 : ex cal k_W_law 1070 (ls) (aI j :: aI i :: st) h = ex cal k_W_law 1071 (ls) (aI (i + j) :: st) h := e_bin cal rfl
theorem u_W_law_1071 : ex cal k_W_law 1071 (ls) (aI i :: aQ (some a) :: st) h = gA h a i (ex cal k_W_law 1072 (ls) (aI (ai h a (wr i)) :: st) h) := e_ia cal rfl
theorem u_W_law_1072 : ex cal k_W_law 1072 (aQ r :: ls) (st) h = ex cal k_W_law 1073 (aQ r :: ls) (aQ r :: st) h := ex_st cal (s := s_ald 0 1073) rfl rfl
theorem u_W_law_1073 : ex cal k_W_law 1073 (x0 :: x1 :: x2 :: aI v :: ls) (st) h = ex cal k_W_law 1074 (x0 :: x1 :: x2 :: aI v :: ls) (aI v :: st) h := ex_st cal (s := s_ild 3 1074) rfl rfl
theorem u_W_law_1074 : ex cal k_W_law 1074 (ls) (st) h = ex cal k_W_law 1075 (ls) (aI 2 :: st) h := e_push cal rfl
theorem u_W_law_1075 : ex cal k_W_law 1075 (ls) (aI j :: aI i :: st) h = ex cal k_W_law 1076 (ls) (aI (i + j) :: st) h := e_bin cal rfl
theorem u_W_law_1076 : ex cal k_W_law 1076 (ls) (aI i :: aQ (some a) :: st) h = gA h a i (ex cal k_W_law 1077 (ls) (aI (ai h a (wr i)) :: st) h) := e_ia cal rfl
theorem u_W_law_1077 (hl : Nat.ble st.length 4 = true) : ex cal k_W_law 1077 (ls) (aI z1 :: aI z0 :: aQ (some a) :: st) h = gO h a 10 (kk cal k_W_law 1080 ls st (cal M_R_come [aQ (some a), aI z0, aI z1] h)) := e_callV cal (ci := 10) (as := [aI z1, aI z0]) rfl (by decide) rfl (Nat.le_of_ble_eq_true hl)
theorem u_W_law_1080 : ex cal k_W_law 1080 (ls) (aI j :: aI i :: st) h = if wr i = wr j then ex cal k_W_law 1141 (ls) (st) h else ex cal k_W_law 1083 (ls) (st) h := e_iceq cal rfl
theorem u_W_law_1083 : ex cal k_W_law 1083 (ls) (st) h = ex cal k_W_law 1084 (ls) (aI 0 :: st) h := e_push cal rfl
theorem u_W_law_1084 (hv : v = 0 ∨ v = 1) : ex cal k_W_law 1084 (ls) ([aI v]) h = some (some (aI v), h) := e_ret22 rfl hv
theorem u_W_law_1085 : ex cal k_W_law 1085 (x0 :: aQ r :: ls) (st) h = ex cal k_W_law 1086 (x0 :: aQ r :: ls) (aQ r :: st) h := ex_st cal (s := s_ald 1 1086) rfl rfl
theorem u_W_law_1086 : ex cal k_W_law 1086 (aQ r :: ls) (st) h = ex cal k_W_law 1087 (aQ r :: ls) (aQ r :: st) h := ex_st cal (s := s_ald 0 1087) rfl rfl
theorem u_W_law_1087 : ex cal k_W_law 1087 (x0 :: x1 :: x2 :: aI v :: ls) (st) h = ex cal k_W_law 1088 (x0 :: x1 :: x2 :: aI v :: ls) (aI v :: st) h := ex_st cal (s := s_ild 3 1088) rfl rfl
theorem u_W_law_1088 : ex cal k_W_law 1088 (ls) (st) h = ex cal k_W_law 1089 (ls) (aI 1 :: st) h := e_push cal rfl
theorem u_W_law_1089 : ex cal k_W_law 1089 (ls) (aI j :: aI i :: st) h = ex cal k_W_law 1090 (ls) (aI (i + j) :: st) h := e_bin cal rfl
theorem u_W_law_1090 : ex cal k_W_law 1090 (ls) (aI i :: aQ (some a) :: st) h = gA h a i (ex cal k_W_law 1091 (ls) (aI (ai h a (wr i)) :: st) h) := e_ia cal rfl
theorem u_W_law_1091 : ex cal k_W_law 1091 (aQ r :: ls) (st) h = ex cal k_W_law 1092 (aQ r :: ls) (aQ r :: st) h := ex_st cal (s := s_ald 0 1092) rfl rfl
theorem u_W_law_1092 : ex cal k_W_law 1092 (x0 :: x1 :: x2 :: aI v :: ls) (st) h = ex cal k_W_law 1093 (x0 :: x1 :: x2 :: aI v :: ls) (aI v :: st) h := ex_st cal (s := s_ild 3 1093) rfl rfl
theorem u_W_law_1093 : ex cal k_W_law 1093 (ls) (st) h = ex cal k_W_law 1094 (ls) (aI 2 :: st) h := e_push cal rfl
theorem u_W_law_1094 : ex cal k_W_law 1094 (ls) (aI j :: aI i :: st) h = ex cal k_W_law 1095 (ls) (aI (i + j) :: st) h := e_bin cal rfl
theorem u_W_law_1095 : ex cal k_W_law 1095 (ls) (aI i :: aQ (some a) :: st) h = gA h a i (ex cal k_W_law 1096 (ls) (aI (ai h a (wr i)) :: st) h) := e_ia cal rfl
theorem u_W_law_1096 : ex cal k_W_law 1096 (aQ r :: ls) (st) h = ex cal k_W_law 1097 (aQ r :: ls) (aQ r :: st) h := ex_st cal (s := s_ald 0 1097) rfl rfl
theorem u_W_law_1097 : ex cal k_W_law 1097 (x0 :: x1 :: x2 :: aI v :: ls) (st) h = ex cal k_W_law 1098 (x0 :: x1 :: x2 :: aI v :: ls) (aI v :: st) h := ex_st cal (s := s_ild 3 1098) rfl rfl
theorem u_W_law_1098 : ex cal k_W_law 1098 (ls) (st) h = ex cal k_W_law 1099 (ls) (aI 3 :: st) h := e_push cal rfl
theorem u_W_law_1099 : ex cal k_W_law 1099 (ls) (aI j :: aI i :: st) h = ex cal k_W_law 1100 (ls) (aI (i + j) :: st) h := e_bin cal rfl
theorem u_W_law_1100 : ex cal k_W_law 1100 (ls) (aI i :: aQ (some a) :: st) h = gA h a i (ex cal k_W_law 1101 (ls) (aI (ai h a (wr i)) :: st) h) := e_ia cal rfl
theorem u_W_law_1101 (hl : Nat.ble st.length 4 = true) : ex cal k_W_law 1101 (ls) (aI z2 :: aI z1 :: aI z0 :: aQ (some a) :: st) h = gO h a 9 (kk cal k_W_law 1104 ls st (cal M_C_forge [aQ (some a), aI z0, aI z1, aI z2] h)) := e_callV cal (ci := 9) (as := [aI z2, aI z1, aI z0]) rfl (by decide) rfl (Nat.le_of_ble_eq_true hl)
theorem u_W_law_1104 : ex cal k_W_law 1104 (x0 :: x1 :: aQ r :: ls) (st) h = ex cal k_W_law 1105 (x0 :: x1 :: aQ r :: ls) (aQ r :: st) h := ex_st cal (s := s_ald 2 1105) rfl rfl
theorem u_W_law_1105 : ex cal k_W_law 1105 (aQ r :: ls) (st) h = ex cal k_W_law 1106 (aQ r :: ls) (aQ r :: st) h := ex_st cal (s := s_ald 0 1106) rfl rfl
theorem u_W_law_1106 : ex cal k_W_law 1106 (x0 :: x1 :: x2 :: aI v :: ls) (st) h = ex cal k_W_law 1107 (x0 :: x1 :: x2 :: aI v :: ls) (aI v :: st) h := ex_st cal (s := s_ild 3 1107) rfl rfl
theorem u_W_law_1107 : ex cal k_W_law 1107 (ls) (st) h = ex cal k_W_law 1108 (ls) (aI 1 :: st) h := e_push cal rfl
theorem u_W_law_1108 : ex cal k_W_law 1108 (ls) (aI j :: aI i :: st) h = ex cal k_W_law 1109 (ls) (aI (i + j) :: st) h := e_bin cal rfl
theorem u_W_law_1109 : ex cal k_W_law 1109 (ls) (aI i :: aQ (some a) :: st) h = gA h a i (ex cal k_W_law 1110 (ls) (aI (ai h a (wr i)) :: st) h) := e_ia cal rfl
theorem u_W_law_1110 : ex cal k_W_law 1110 (aQ r :: ls) (st) h = ex cal k_W_law 1111 (aQ r :: ls) (aQ r :: st) h := ex_st cal (s := s_ald 0 1111) rfl rfl
theorem u_W_law_1111 : ex cal k_W_law 1111 (x0 :: x1 :: x2 :: aI v :: ls) (st) h = ex cal k_W_law 1112 (x0 :: x1 :: x2 :: aI v :: ls) (aI v :: st) h := ex_st cal (s := s_ild 3 1112) rfl rfl
theorem u_W_law_1112 : ex cal k_W_law 1112 (ls) (st) h = ex cal k_W_law 1113 (ls) (aI 2 :: st) h := e_push cal rfl
theorem u_W_law_1113 : ex cal k_W_law 1113 (ls) (aI j :: aI i :: st) h = ex cal k_W_law 1114 (ls) (aI (i + j) :: st) h := e_bin cal rfl
theorem u_W_law_1114 : ex cal k_W_law 1114 (ls) (aI i :: aQ (some a) :: st) h = gA h a i (ex cal k_W_law 1115 (ls) (aI (ai h a (wr i)) :: st) h) := e_ia cal rfl
theorem u_W_law_1115 : ex cal k_W_law 1115 (aQ r :: ls) (st) h = ex cal k_W_law 1116 (aQ r :: ls) (aQ r :: st) h := ex_st cal (s := s_ald 0 1116) rfl rfl
theorem u_W_law_1116 : ex cal k_W_law 1116 (x0 :: x1 :: x2 :: aI v :: ls) (st) h = ex cal k_W_law 1117 (x0 :: x1 :: x2 :: aI v :: ls) (aI v :: st) h := ex_st cal (s := s_ild 3 1117) rfl rfl
theorem u_W_law_1117 : ex cal k_W_law 1117 (ls) (st) h = ex cal k_W_law 1118 (ls) (aI 3 :: st) h := e_push cal rfl
theorem u_W_law_1118 : ex cal k_W_law 1118 (ls) (aI j :: aI i :: st) h = ex cal k_W_law 1119 (ls) (aI (i + j) :: st) h := e_bin cal rfl
theorem u_W_law_1119 : ex cal k_W_law 1119 (ls) (aI i :: aQ (some a) :: st) h = gA h a i (ex cal k_W_law 1120 (ls) (aI (ai h a (wr i)) :: st) h) := e_ia cal rfl
theorem u_W_law_1120 (hl : Nat.ble st.length 4 = true) : ex cal k_W_law 1120 (ls) (aI z2 :: aI z1 :: aI z0 :: aQ (some a) :: st) h = gO h a 10 (kk cal k_W_law 1123 ls st (cal M_R_forge [aQ (some a), aI z0, aI z1, aI z2] h)) := e_callV cal (ci := 10) (as := [aI z2, aI z1, aI z0]) rfl (by decide) rfl (Nat.le_of_ble_eq_true hl)
theorem u_W_law_1123 : ex cal k_W_law 1123 (ls) (aI j :: aI i :: st) h = if wr i = wr j then ex cal k_W_law 1141 (ls) (st) h else ex cal k_W_law 1126 (ls) (st) h := e_iceq cal rfl
theorem u_W_law_1126 : ex cal k_W_law 1126 (ls) (st) h = ex cal k_W_law 1127 (ls) (aI 0 :: st) h := e_push cal rfl
theorem u_W_law_1127 (hv : v = 0 ∨ v = 1) : ex cal k_W_law 1127 (ls) ([aI v]) h = some (some (aI v), h) := e_ret22 rfl hv
theorem u_W_law_1128 : ex cal k_W_law 1128 (x0 :: aQ r :: ls) (st) h = ex cal k_W_law 1129 (x0 :: aQ r :: ls) (aQ r :: st) h := ex_st cal (s := s_ald 1 1129) rfl rfl
theorem u_W_law_1129 (hl : Nat.ble st.length 4 = true) : ex cal k_W_law 1129 (ls) (aQ (some a) :: st) h = gO h a 9 (kk cal k_W_law 1132 ls st (cal M_C_status [aQ (some a)] h)) := e_callV cal (ci := 9) (as := []) rfl (by decide) rfl (Nat.le_of_ble_eq_true hl)
theorem u_W_law_1132 : ex cal k_W_law 1132 (x0 :: x1 :: aQ r :: ls) (st) h = ex cal k_W_law 1133 (x0 :: x1 :: aQ r :: ls) (aQ r :: st) h := ex_st cal (s := s_ald 2 1133) rfl rfl
theorem u_W_law_1133 (hl : Nat.ble st.length 4 = true) : ex cal k_W_law 1133 (ls) (aQ (some a) :: st) h = gO h a 10 (kk cal k_W_law 1136 ls st (cal M_R_status [aQ (some a)] h)) := e_callV cal (ci := 10) (as := []) rfl (by decide) rfl (Nat.le_of_ble_eq_true hl)
theorem u_W_law_1136 : ex cal k_W_law 1136 (ls) (aI j :: aI i :: st) h = if wr i = wr j then ex cal k_W_law 1141 (ls) (st) h else ex cal k_W_law 1139 (ls) (st) h := e_iceq cal rfl
theorem u_W_law_1139 : ex cal k_W_law 1139 (ls) (st) h = ex cal k_W_law 1140 (ls) (aI 0 :: st) h := e_push cal rfl
theorem u_W_law_1140 (hv : v = 0 ∨ v = 1) : ex cal k_W_law 1140 (ls) ([aI v]) h = some (some (aI v), h) := e_ret22 rfl hv
theorem u_W_law_1141 (hx : aNl x2 = true) : ex cal k_W_law 1141 (x0 :: x1 :: x2 :: aI v :: ls) (st) h = ex cal k_W_law 1144 (x0 :: x1 :: x2 :: aI (v + 5) :: ls) (st) h := e_inc (ls := x0 :: x1 :: x2 :: aI v :: ls) (k := 3) rfl rfl hx
theorem u_W_law_1144 : ex cal k_W_law 1144 (ls) (st) h = ex cal k_W_law 18 (ls) (st) h := ex_st cal (s := s_go 18) rfl rfl
theorem u_W_law_1147 : ex cal k_W_law 1147 (ls) (st) h = ex cal k_W_law 1148 (ls) (aI 1 :: st) h := e_push cal rfl
theorem u_W_law_1148 (hv : v = 0 ∨ v = 1) : ex cal k_W_law 1148 (ls) ([aI v]) h = some (some (aI v), h) := e_ret22 rfl hv
theorem n_W_law (d : Nat) : ev (d + 1) M_W_law [aQ r0] h = ex (ev d) k_W_law 0 [aQ r0, aU, aU, aU] [] h := rfl
end UU
