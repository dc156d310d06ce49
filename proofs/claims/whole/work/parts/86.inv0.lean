/-! what holds between calls holds behind the constructors: printed by wip/whole/gen/gen86.py -/
section I86
variable {h : aH} {a b c n k : Nat} {f : Int → Int} {p : Int → Option Nat}
theorem al_cA (e : aCo h a = .inr (.inl (n, f))) : al h a = n := by unfold al; rw [e]
theorem ai_cA (e : aCo h a = .inr (.inl (n, f))) : ai h a = f := by unfold ai; rw [e]
theorem al_cR (e : aCo h a = .inr (.inr (c, n, p))) : al h a = n := by unfold al; rw [e]
theorem ra_cR (e : aCo h a = .inr (.inr (c, n, p))) : ra h a = p := by unfold ra; rw [e]
theorem gf_cO {fs : List aV} (e : aCo h a = .inl (c, fs)) : gf h a k = fs.getD k aU := by unfold gf; rw [e]
theorem gI_of {z : Int} (e : gf h a k = aI z) : gf h a k = aI (fi h a k) := by rw [fi_of e]; exact e
theorem pgs_at {q : Nat} {f : Int} (h1 : 0 ≤ f) (h2 : f < 6) : pgs q f = some q := by
  have : f = 0 ∨ f = 1 ∨ f = 2 ∨ f = 3 ∨ f = 4 ∨ f = 5 := by omega
  rcases this with rfl | rfl | rfl | rfl | rfl | rfl <;> rfl
theorem f54_v : f54 0 = 0 ∧ f54 1 = 0 ∧ f54 2 = 0 ∧ f54 3 = 0 ∧ f54 4 = 0 ∧ f54 5 = 50 := ⟨rfl, rfl, rfl, rfl, rfl, rfl⟩
set_option maxHeartbeats 4000000 in
set_option maxRecDepth 20000 in
theorem i_Sh (hz : aSz h = 66) (k1 : aCo h 1 = .inr (.inl (6, ka))) (k2 : aCo h 2 = .inr (.inl (24, bo))) (c3 : aCo h 3 = .inl (9, [aQ (some 4), aQ (some 11), aQ (some 18), aQ (some 21), aQ (some 23), aQ (some 28), aQ (some 30), aI 0, aI 0, aI 0])) (c4 : aCo h 4 = oSt 5) (c5 : aCo h 5 = zA 8) (c6 : aCo h 6 = zA 20) (c7 : aCo h 7 = .inr (.inr (0, 6, pgs 9))) (c8 : aCo h 8 = nR 1 60) (c9 : aCo h 9 = .inl (4, [aQ (some 10)])) (c10 : aCo h 10 = nR 2 0) (c11 : aCo h 11 = oSt 12) (c12 : aCo h 12 = zA 8) (c13 : aCo h 13 = zA 20) (c14 : aCo h 14 = .inr (.inr (0, 6, pgs 16))) (c15 : aCo h 15 = nR 1 60) (c16 : aCo h 16 = .inl (4, [aQ (some 17)])) (c17 : aCo h 17 = nR 2 0) (c18 : aCo h 18 = .inl (2, [aQ (some 19), aQ (some 20), aI 0, aQ none, aQ none, aI 0, aI 0])) (c19 : aCo h 19 = zA 441) (c20 : aCo h 20 = zA 20) (c21 : aCo h 21 = .inl (8, [aQ (some 22)])) (c22 : aCo h 22 = zA 6) (c23 : aCo h 23 = .inl (5, [aI 0, aQ (some 24), aQ (some 25), aI 0, aQ (some 26), aQ (some 27)])) (c24 : aCo h 24 = zA 8) (c25 : aCo h 25 = zA 6) (c26 : aCo h 26 = zA 48) (c27 : aCo h 27 = zA 2304) (c28 : aCo h 28 = .inl (0, [aQ (some 29), aI 0])) (c29 : aCo h 29 = zA 50) (c30 : aCo h 30 = .inr (.inr (3, 4, shs))) (c31 : aCo h 31 = .inl (6, [aI (-1), aI 0, aQ (some 32)])) (c32 : aCo h 32 = zA 40) (c33 : aCo h 33 = .inl (6, [aI (-1), aI 0, aQ (some 34)])) (c34 : aCo h 34 = zA 40) (c35 : aCo h 35 = .inl (6, [aI (-1), aI 0, aQ (some 36)])) (c36 : aCo h 36 = zA 40) (c37 : aCo h 37 = .inl (6, [aI (-1), aI 0, aQ (some 38)])) (c38 : aCo h 38 = zA 40) (c39 : aCo h 39 = .inl (10, [aQ (some 40), aQ (some 41), aQ (some 42), aQ (some 43), aQ (some 44), aQ (some 45), aQ (some 46), aQ (some 47), aQ (some 48), aQ (some 49), aQ (some 50), aQ (some 51), aQ (some 52), aQ (some 53), aQ (some 54), aQ (some 55), aI 0, aI 0, aI 0, aQ (some 56), aQ (some 57), aI 0, aQ (some 58), aI 0, aQ (some 59), aQ (some 60), aQ (some 61), aQ (some 62), aI 0, aQ (some 63), aQ (some 64), aQ (some 65)])) (c40 : aCo h 40 = zA 3240) (c41 : aCo h 41 = zA 6) (c42 : aCo h 42 = zA 32400) (c43 : aCo h 43 = zA 60) (c44 : aCo h 44 = zA 540) (c45 : aCo h 45 = zA 60) (c46 : aCo h 46 = zA 60) (c47 : aCo h 47 = zA 60) (c48 : aCo h 48 = zA 60) (c49 : aCo h 49 = zA 60) (c50 : aCo h 50 = zA 60) (c51 : aCo h 51 = zA 60) (c52 : aCo h 52 = zA 8) (c53 : aCo h 53 = zA 20) (c54 : aCo h 54 = .inr (.inl (6, f54))) (c55 : aCo h 55 = zA 36800) (c56 : aCo h 56 = zA 441) (c57 : aCo h 57 = zA 20) (c58 : aCo h 58 = zA 6) (c59 : aCo h 59 = zA 36864) (c60 : aCo h 60 = zA 48) (c61 : aCo h 61 = .inr (.inl (6, f61))) (c62 : aCo h 62 = zA 50) (c63 : aCo h 63 = zA 4) (c64 : aCo h 64 = zA 4) (c65 : aCo h 65 = zA 160) : Sh h := by
  have o3 : isO h 3 9 = true := isO_c c3 (by decide) (by omega) rfl
  have o4 : isO h 4 7 = true := isO_c c4 (by decide) (by omega) rfl
  have o9 : isO h 9 4 = true := isO_c c9 (by decide) (by omega) rfl
  have o11 : isO h 11 7 = true := isO_c c11 (by decide) (by omega) rfl
  have o16 : isO h 16 4 = true := isO_c c16 (by decide) (by omega) rfl
  have o18 : isO h 18 2 = true := isO_c c18 (by decide) (by omega) rfl
  have o21 : isO h 21 8 = true := isO_c c21 (by decide) (by omega) rfl
  have o23 : isO h 23 5 = true := isO_c c23 (by decide) (by omega) rfl
  have o28 : isO h 28 0 = true := isO_c c28 (by decide) (by omega) rfl
  have o31 : isO h 31 6 = true := isO_c c31 (by decide) (by omega) rfl
  have o33 : isO h 33 6 = true := isO_c c33 (by decide) (by omega) rfl
  have o35 : isO h 35 6 = true := isO_c c35 (by decide) (by omega) rfl
  have o37 : isO h 37 6 = true := isO_c c37 (by decide) (by omega) rfl
  have o39 : isO h 39 10 = true := isO_c c39 (by decide) (by omega) rfl
  have q3_0 : gf h 3 0 = aQ (some 4) := gf_cO c3
  have q3_1 : gf h 3 1 = aQ (some 11) := gf_cO c3
  have q3_2 : gf h 3 2 = aQ (some 18) := gf_cO c3
  have q3_3 : gf h 3 3 = aQ (some 21) := gf_cO c3
  have q3_4 : gf h 3 4 = aQ (some 23) := gf_cO c3
  have q3_5 : gf h 3 5 = aQ (some 28) := gf_cO c3
  have q3_6 : gf h 3 6 = aQ (some 30) := gf_cO c3
  have q4_1 : gf h 4 1 = aQ (some 5) := gf_cO c4
  have q4_6 : gf h 4 6 = aQ (some 6) := gf_cO c4
  have q4_7 : gf h 4 7 = aQ (some 7) := gf_cO c4
  have q4_9 : gf h 4 9 = aQ (some 8) := gf_cO c4
  have q11_1 : gf h 11 1 = aQ (some 12) := gf_cO c11
  have q11_6 : gf h 11 6 = aQ (some 13) := gf_cO c11
  have q11_7 : gf h 11 7 = aQ (some 14) := gf_cO c11
  have q11_9 : gf h 11 9 = aQ (some 15) := gf_cO c11
  have q9_0 : gf h 9 0 = aQ (some 10) := gf_cO c9
  have q16_0 : gf h 16 0 = aQ (some 17) := gf_cO c16
  have q18_0 : gf h 18 0 = aQ (some 19) := gf_cO c18
  have q18_1 : gf h 18 1 = aQ (some 20) := gf_cO c18
  have q21_0 : gf h 21 0 = aQ (some 22) := gf_cO c21
  have q23_1 : gf h 23 1 = aQ (some 24) := gf_cO c23
  have q23_2 : gf h 23 2 = aQ (some 25) := gf_cO c23
  have q23_4 : gf h 23 4 = aQ (some 26) := gf_cO c23
  have q23_5 : gf h 23 5 = aQ (some 27) := gf_cO c23
  have q28_0 : gf h 28 0 = aQ (some 29) := gf_cO c28
  have q31_2 : gf h 31 2 = aQ (some 32) := gf_cO c31
  have q33_2 : gf h 33 2 = aQ (some 34) := gf_cO c33
  have q35_2 : gf h 35 2 = aQ (some 36) := gf_cO c35
  have q37_2 : gf h 37 2 = aQ (some 38) := gf_cO c37
  have q39_0 : gf h 39 0 = aQ (some 40) := gf_cO c39
  have q39_1 : gf h 39 1 = aQ (some 41) := gf_cO c39
  have q39_2 : gf h 39 2 = aQ (some 42) := gf_cO c39
  have q39_3 : gf h 39 3 = aQ (some 43) := gf_cO c39
  have q39_4 : gf h 39 4 = aQ (some 44) := gf_cO c39
  have q39_5 : gf h 39 5 = aQ (some 45) := gf_cO c39
  have q39_6 : gf h 39 6 = aQ (some 46) := gf_cO c39
  have q39_7 : gf h 39 7 = aQ (some 47) := gf_cO c39
  have q39_8 : gf h 39 8 = aQ (some 48) := gf_cO c39
  have q39_9 : gf h 39 9 = aQ (some 49) := gf_cO c39
  have q39_10 : gf h 39 10 = aQ (some 50) := gf_cO c39
  have q39_11 : gf h 39 11 = aQ (some 51) := gf_cO c39
  have q39_12 : gf h 39 12 = aQ (some 52) := gf_cO c39
  have q39_13 : gf h 39 13 = aQ (some 53) := gf_cO c39
  have q39_14 : gf h 39 14 = aQ (some 54) := gf_cO c39
  have q39_15 : gf h 39 15 = aQ (some 55) := gf_cO c39
  have q39_19 : gf h 39 19 = aQ (some 56) := gf_cO c39
  have q39_20 : gf h 39 20 = aQ (some 57) := gf_cO c39
  have q39_22 : gf h 39 22 = aQ (some 58) := gf_cO c39
  have q39_24 : gf h 39 24 = aQ (some 59) := gf_cO c39
  have q39_25 : gf h 39 25 = aQ (some 60) := gf_cO c39
  have q39_26 : gf h 39 26 = aQ (some 61) := gf_cO c39
  have q39_27 : gf h 39 27 = aQ (some 62) := gf_cO c39
  have q39_29 : gf h 39 29 = aQ (some 63) := gf_cO c39
  have q39_30 : gf h 39 30 = aQ (some 64) := gf_cO c39
  have q39_31 : gf h 39 31 = aQ (some 65) := gf_cO c39
  have i3_7 : gf h 3 7 = aI 0 := gf_cO c3
  have i3_8 : gf h 3 8 = aI 0 := gf_cO c3
  have i3_9 : gf h 3 9 = aI 0 := gf_cO c3
  have i4_0 : gf h 4 0 = aI 0 := gf_cO c4
  have i4_2 : gf h 4 2 = aI 0 := gf_cO c4
  have i4_3 : gf h 4 3 = aI 0 := gf_cO c4
  have i4_4 : gf h 4 4 = aI 50 := gf_cO c4
  have i4_5 : gf h 4 5 = aI 0 := gf_cO c4
  have i4_8 : gf h 4 8 = aI 0 := gf_cO c4
  have i11_0 : gf h 11 0 = aI 0 := gf_cO c11
  have i11_2 : gf h 11 2 = aI 0 := gf_cO c11
  have i11_3 : gf h 11 3 = aI 0 := gf_cO c11
  have i11_4 : gf h 11 4 = aI 50 := gf_cO c11
  have i11_5 : gf h 11 5 = aI 0 := gf_cO c11
  have i11_8 : gf h 11 8 = aI 0 := gf_cO c11
  have i18_2 : gf h 18 2 = aI 0 := gf_cO c18
  have i18_5 : gf h 18 5 = aI 0 := gf_cO c18
  have i18_6 : gf h 18 6 = aI 0 := gf_cO c18
  have i23_0 : gf h 23 0 = aI 0 := gf_cO c23
  have i23_3 : gf h 23 3 = aI 0 := gf_cO c23
  have i28_1 : gf h 28 1 = aI 0 := gf_cO c28
  have i31_0 : gf h 31 0 = aI (-1) := gf_cO c31
  have i31_1 : gf h 31 1 = aI 0 := gf_cO c31
  have i33_0 : gf h 33 0 = aI (-1) := gf_cO c33
  have i33_1 : gf h 33 1 = aI 0 := gf_cO c33
  have i35_0 : gf h 35 0 = aI (-1) := gf_cO c35
  have i35_1 : gf h 35 1 = aI 0 := gf_cO c35
  have i37_0 : gf h 37 0 = aI (-1) := gf_cO c37
  have i37_1 : gf h 37 1 = aI 0 := gf_cO c37
  have i39_16 : gf h 39 16 = aI 0 := gf_cO c39
  have i39_17 : gf h 39 17 = aI 0 := gf_cO c39
  have i39_18 : gf h 39 18 = aI 0 := gf_cO c39
  have i39_21 : gf h 39 21 = aI 0 := gf_cO c39
  have i39_23 : gf h 39 23 = aI 0 := gf_cO c39
  have i39_28 : gf h 39 28 = aI 0 := gf_cO c39
  have a1 : isA h 1 = true ∧ al h 1 = 6 := ⟨isA_c k1 (by omega), al_cA k1⟩
  have a2 : isA h 2 = true ∧ al h 2 = 24 := ⟨isA_c k2 (by omega), al_cA k2⟩
  have a5 : isA h 5 = true ∧ al h 5 = 8 := ⟨isA_c c5 (by omega), al_cA c5⟩
  have a6 : isA h 6 = true ∧ al h 6 = 20 := ⟨isA_c c6 (by omega), al_cA c6⟩
  have a12 : isA h 12 = true ∧ al h 12 = 8 := ⟨isA_c c12 (by omega), al_cA c12⟩
  have a13 : isA h 13 = true ∧ al h 13 = 20 := ⟨isA_c c13 (by omega), al_cA c13⟩
  have a19 : isA h 19 = true ∧ al h 19 = 441 := ⟨isA_c c19 (by omega), al_cA c19⟩
  have a20 : isA h 20 = true ∧ al h 20 = 20 := ⟨isA_c c20 (by omega), al_cA c20⟩
  have a22 : isA h 22 = true ∧ al h 22 = 6 := ⟨isA_c c22 (by omega), al_cA c22⟩
  have a24 : isA h 24 = true ∧ al h 24 = 8 := ⟨isA_c c24 (by omega), al_cA c24⟩
  have a25 : isA h 25 = true ∧ al h 25 = 6 := ⟨isA_c c25 (by omega), al_cA c25⟩
  have a26 : isA h 26 = true ∧ al h 26 = 48 := ⟨isA_c c26 (by omega), al_cA c26⟩
  have a27 : isA h 27 = true ∧ al h 27 = 2304 := ⟨isA_c c27 (by omega), al_cA c27⟩
  have a29 : isA h 29 = true ∧ al h 29 = 50 := ⟨isA_c c29 (by omega), al_cA c29⟩
  have a32 : isA h 32 = true ∧ al h 32 = 40 := ⟨isA_c c32 (by omega), al_cA c32⟩
  have a34 : isA h 34 = true ∧ al h 34 = 40 := ⟨isA_c c34 (by omega), al_cA c34⟩
  have a36 : isA h 36 = true ∧ al h 36 = 40 := ⟨isA_c c36 (by omega), al_cA c36⟩
  have a38 : isA h 38 = true ∧ al h 38 = 40 := ⟨isA_c c38 (by omega), al_cA c38⟩
  have a40 : isA h 40 = true ∧ al h 40 = 3240 := ⟨isA_c c40 (by omega), al_cA c40⟩
  have a41 : isA h 41 = true ∧ al h 41 = 6 := ⟨isA_c c41 (by omega), al_cA c41⟩
  have a42 : isA h 42 = true ∧ al h 42 = 32400 := ⟨isA_c c42 (by omega), al_cA c42⟩
  have a43 : isA h 43 = true ∧ al h 43 = 60 := ⟨isA_c c43 (by omega), al_cA c43⟩
  have a44 : isA h 44 = true ∧ al h 44 = 540 := ⟨isA_c c44 (by omega), al_cA c44⟩
  have a45 : isA h 45 = true ∧ al h 45 = 60 := ⟨isA_c c45 (by omega), al_cA c45⟩
  have a46 : isA h 46 = true ∧ al h 46 = 60 := ⟨isA_c c46 (by omega), al_cA c46⟩
  have a47 : isA h 47 = true ∧ al h 47 = 60 := ⟨isA_c c47 (by omega), al_cA c47⟩
  have a48 : isA h 48 = true ∧ al h 48 = 60 := ⟨isA_c c48 (by omega), al_cA c48⟩
  have a49 : isA h 49 = true ∧ al h 49 = 60 := ⟨isA_c c49 (by omega), al_cA c49⟩
  have a50 : isA h 50 = true ∧ al h 50 = 60 := ⟨isA_c c50 (by omega), al_cA c50⟩
  have a51 : isA h 51 = true ∧ al h 51 = 60 := ⟨isA_c c51 (by omega), al_cA c51⟩
  have a52 : isA h 52 = true ∧ al h 52 = 8 := ⟨isA_c c52 (by omega), al_cA c52⟩
  have a53 : isA h 53 = true ∧ al h 53 = 20 := ⟨isA_c c53 (by omega), al_cA c53⟩
  have a54 : isA h 54 = true ∧ al h 54 = 6 := ⟨isA_c c54 (by omega), al_cA c54⟩
  have a55 : isA h 55 = true ∧ al h 55 = 36800 := ⟨isA_c c55 (by omega), al_cA c55⟩
  have a56 : isA h 56 = true ∧ al h 56 = 441 := ⟨isA_c c56 (by omega), al_cA c56⟩
  have a57 : isA h 57 = true ∧ al h 57 = 20 := ⟨isA_c c57 (by omega), al_cA c57⟩
  have a58 : isA h 58 = true ∧ al h 58 = 6 := ⟨isA_c c58 (by omega), al_cA c58⟩
  have a59 : isA h 59 = true ∧ al h 59 = 36864 := ⟨isA_c c59 (by omega), al_cA c59⟩
  have a60 : isA h 60 = true ∧ al h 60 = 48 := ⟨isA_c c60 (by omega), al_cA c60⟩
  have a61 : isA h 61 = true ∧ al h 61 = 6 := ⟨isA_c c61 (by omega), al_cA c61⟩
  have a62 : isA h 62 = true ∧ al h 62 = 50 := ⟨isA_c c62 (by omega), al_cA c62⟩
  have a63 : isA h 63 = true ∧ al h 63 = 4 := ⟨isA_c c63 (by omega), al_cA c63⟩
  have a64 : isA h 64 = true ∧ al h 64 = 4 := ⟨isA_c c64 (by omega), al_cA c64⟩
  have a65 : isA h 65 = true ∧ al h 65 = 160 := ⟨isA_c c65 (by omega), al_cA c65⟩
  have r7 : isR h 7 0 = true ∧ al h 7 = 6 := ⟨isR_c c7 (by decide) (by omega), al_cR c7⟩
  have r8 : isR h 8 1 = true ∧ al h 8 = 60 := ⟨isR_c c8 (by decide) (by omega), al_cR c8⟩
  have r10 : isR h 10 2 = true ∧ al h 10 = 0 := ⟨isR_c c10 (by decide) (by omega), al_cR c10⟩
  have r14 : isR h 14 0 = true ∧ al h 14 = 6 := ⟨isR_c c14 (by decide) (by omega), al_cR c14⟩
  have r15 : isR h 15 1 = true ∧ al h 15 = 60 := ⟨isR_c c15 (by decide) (by omega), al_cR c15⟩
  have r17 : isR h 17 2 = true ∧ al h 17 = 0 := ⟨isR_c c17 (by decide) (by omega), al_cR c17⟩
  have r30 : isR h 30 3 = true ∧ al h 30 = 4 := ⟨isR_c c30 (by decide) (by omega), al_cR c30⟩
  refine ⟨⟨by omega, ai_cA k1, ai_cA k2⟩, ?_, ?_, ?_, ?_, ?_, ?_⟩
  · exact List.forall_mem_cons.mpr ⟨o3, List.forall_mem_cons.mpr ⟨o4, List.forall_mem_cons.mpr ⟨o9, List.forall_mem_cons.mpr ⟨o11, List.forall_mem_cons.mpr ⟨o16, List.forall_mem_cons.mpr ⟨o18, List.forall_mem_cons.mpr ⟨o21, List.forall_mem_cons.mpr ⟨o23, List.forall_mem_cons.mpr ⟨o28, List.forall_mem_cons.mpr ⟨o31, List.forall_mem_cons.mpr ⟨o33, List.forall_mem_cons.mpr ⟨o35, List.forall_mem_cons.mpr ⟨o37, List.forall_mem_cons.mpr ⟨o39, fun _ h => absurd h List.not_mem_nil⟩⟩⟩⟩⟩⟩⟩⟩⟩⟩⟩⟩⟩⟩
  · exact List.forall_mem_cons.mpr ⟨q3_0, List.forall_mem_cons.mpr ⟨q3_1, List.forall_mem_cons.mpr ⟨q3_2, List.forall_mem_cons.mpr ⟨q3_3, List.forall_mem_cons.mpr ⟨q3_4, List.forall_mem_cons.mpr ⟨q3_5, List.forall_mem_cons.mpr ⟨q3_6, List.forall_mem_cons.mpr ⟨q4_1, List.forall_mem_cons.mpr ⟨q4_6, List.forall_mem_cons.mpr ⟨q4_7, List.forall_mem_cons.mpr ⟨q4_9, List.forall_mem_cons.mpr ⟨q11_1, List.forall_mem_cons.mpr ⟨q11_6, List.forall_mem_cons.mpr ⟨q11_7, List.forall_mem_cons.mpr ⟨q11_9, List.forall_mem_cons.mpr ⟨q9_0, List.forall_mem_cons.mpr ⟨q16_0, List.forall_mem_cons.mpr ⟨q18_0, List.forall_mem_cons.mpr ⟨q18_1, List.forall_mem_cons.mpr ⟨q21_0, List.forall_mem_cons.mpr ⟨q23_1, List.forall_mem_cons.mpr ⟨q23_2, List.forall_mem_cons.mpr ⟨q23_4, List.forall_mem_cons.mpr ⟨q23_5, List.forall_mem_cons.mpr ⟨q28_0, List.forall_mem_cons.mpr ⟨q31_2, List.forall_mem_cons.mpr ⟨q33_2, List.forall_mem_cons.mpr ⟨q35_2, List.forall_mem_cons.mpr ⟨q37_2, List.forall_mem_cons.mpr ⟨q39_0, List.forall_mem_cons.mpr ⟨q39_1, List.forall_mem_cons.mpr ⟨q39_2, List.forall_mem_cons.mpr ⟨q39_3, List.forall_mem_cons.mpr ⟨q39_4, List.forall_mem_cons.mpr ⟨q39_5, List.forall_mem_cons.mpr ⟨q39_6, List.forall_mem_cons.mpr ⟨q39_7, List.forall_mem_cons.mpr ⟨q39_8, List.forall_mem_cons.mpr ⟨q39_9, List.forall_mem_cons.mpr ⟨q39_10, List.forall_mem_cons.mpr ⟨q39_11, List.forall_mem_cons.mpr ⟨q39_12, List.forall_mem_cons.mpr ⟨q39_13, List.forall_mem_cons.mpr ⟨q39_14, List.forall_mem_cons.mpr ⟨q39_15, List.forall_mem_cons.mpr ⟨q39_19, List.forall_mem_cons.mpr ⟨q39_20, List.forall_mem_cons.mpr ⟨q39_22, List.forall_mem_cons.mpr ⟨q39_24, List.forall_mem_cons.mpr ⟨q39_25, List.forall_mem_cons.mpr ⟨q39_26, List.forall_mem_cons.mpr ⟨q39_27, List.forall_mem_cons.mpr ⟨q39_29, List.forall_mem_cons.mpr ⟨q39_30, List.forall_mem_cons.mpr ⟨q39_31, fun _ h => absurd h List.not_mem_nil⟩⟩⟩⟩⟩⟩⟩⟩⟩⟩⟩⟩⟩⟩⟩⟩⟩⟩⟩⟩⟩⟩⟩⟩⟩⟩⟩⟩⟩⟩⟩⟩⟩⟩⟩⟩⟩⟩⟩⟩⟩⟩⟩⟩⟩⟩⟩⟩⟩⟩⟩⟩⟩⟩⟩
  · exact List.forall_mem_cons.mpr ⟨gI_of i3_7, List.forall_mem_cons.mpr ⟨gI_of i3_8, List.forall_mem_cons.mpr ⟨gI_of i3_9, List.forall_mem_cons.mpr ⟨gI_of i4_0, List.forall_mem_cons.mpr ⟨gI_of i4_2, List.forall_mem_cons.mpr ⟨gI_of i4_3, List.forall_mem_cons.mpr ⟨gI_of i4_4, List.forall_mem_cons.mpr ⟨gI_of i4_5, List.forall_mem_cons.mpr ⟨gI_of i4_8, List.forall_mem_cons.mpr ⟨gI_of i11_0, List.forall_mem_cons.mpr ⟨gI_of i11_2, List.forall_mem_cons.mpr ⟨gI_of i11_3, List.forall_mem_cons.mpr ⟨gI_of i11_4, List.forall_mem_cons.mpr ⟨gI_of i11_5, List.forall_mem_cons.mpr ⟨gI_of i11_8, List.forall_mem_cons.mpr ⟨gI_of i18_2, List.forall_mem_cons.mpr ⟨gI_of i18_5, List.forall_mem_cons.mpr ⟨gI_of i18_6, List.forall_mem_cons.mpr ⟨gI_of i23_0, List.forall_mem_cons.mpr ⟨gI_of i23_3, List.forall_mem_cons.mpr ⟨gI_of i28_1, List.forall_mem_cons.mpr ⟨gI_of i31_0, List.forall_mem_cons.mpr ⟨gI_of i31_1, List.forall_mem_cons.mpr ⟨gI_of i33_0, List.forall_mem_cons.mpr ⟨gI_of i33_1, List.forall_mem_cons.mpr ⟨gI_of i35_0, List.forall_mem_cons.mpr ⟨gI_of i35_1, List.forall_mem_cons.mpr ⟨gI_of i37_0, List.forall_mem_cons.mpr ⟨gI_of i37_1, List.forall_mem_cons.mpr ⟨gI_of i39_16, List.forall_mem_cons.mpr ⟨gI_of i39_17, List.forall_mem_cons.mpr ⟨gI_of i39_18, List.forall_mem_cons.mpr ⟨gI_of i39_21, List.forall_mem_cons.mpr ⟨gI_of i39_23, List.forall_mem_cons.mpr ⟨gI_of i39_28, fun _ h => absurd h List.not_mem_nil⟩⟩⟩⟩⟩⟩⟩⟩⟩⟩⟩⟩⟩⟩⟩⟩⟩⟩⟩⟩⟩⟩⟩⟩⟩⟩⟩⟩⟩⟩⟩⟩⟩⟩⟩
  · exact List.forall_mem_cons.mpr ⟨a1, List.forall_mem_cons.mpr ⟨a2, List.forall_mem_cons.mpr ⟨a5, List.forall_mem_cons.mpr ⟨a6, List.forall_mem_cons.mpr ⟨a12, List.forall_mem_cons.mpr ⟨a13, List.forall_mem_cons.mpr ⟨a19, List.forall_mem_cons.mpr ⟨a20, List.forall_mem_cons.mpr ⟨a22, List.forall_mem_cons.mpr ⟨a24, List.forall_mem_cons.mpr ⟨a25, List.forall_mem_cons.mpr ⟨a26, List.forall_mem_cons.mpr ⟨a27, List.forall_mem_cons.mpr ⟨a29, List.forall_mem_cons.mpr ⟨a32, List.forall_mem_cons.mpr ⟨a34, List.forall_mem_cons.mpr ⟨a36, List.forall_mem_cons.mpr ⟨a38, List.forall_mem_cons.mpr ⟨a40, List.forall_mem_cons.mpr ⟨a41, List.forall_mem_cons.mpr ⟨a42, List.forall_mem_cons.mpr ⟨a43, List.forall_mem_cons.mpr ⟨a44, List.forall_mem_cons.mpr ⟨a45, List.forall_mem_cons.mpr ⟨a46, List.forall_mem_cons.mpr ⟨a47, List.forall_mem_cons.mpr ⟨a48, List.forall_mem_cons.mpr ⟨a49, List.forall_mem_cons.mpr ⟨a50, List.forall_mem_cons.mpr ⟨a51, List.forall_mem_cons.mpr ⟨a52, List.forall_mem_cons.mpr ⟨a53, List.forall_mem_cons.mpr ⟨a54, List.forall_mem_cons.mpr ⟨a55, List.forall_mem_cons.mpr ⟨a56, List.forall_mem_cons.mpr ⟨a57, List.forall_mem_cons.mpr ⟨a58, List.forall_mem_cons.mpr ⟨a59, List.forall_mem_cons.mpr ⟨a60, List.forall_mem_cons.mpr ⟨a61, List.forall_mem_cons.mpr ⟨a62, List.forall_mem_cons.mpr ⟨a63, List.forall_mem_cons.mpr ⟨a64, List.forall_mem_cons.mpr ⟨a65, fun _ h => absurd h List.not_mem_nil⟩⟩⟩⟩⟩⟩⟩⟩⟩⟩⟩⟩⟩⟩⟩⟩⟩⟩⟩⟩⟩⟩⟩⟩⟩⟩⟩⟩⟩⟩⟩⟩⟩⟩⟩⟩⟩⟩⟩⟩⟩⟩⟩⟩
  · exact List.forall_mem_cons.mpr ⟨r7, List.forall_mem_cons.mpr ⟨r8, List.forall_mem_cons.mpr ⟨r10, List.forall_mem_cons.mpr ⟨r14, List.forall_mem_cons.mpr ⟨r15, List.forall_mem_cons.mpr ⟨r17, List.forall_mem_cons.mpr ⟨r30, fun _ h => absurd h List.not_mem_nil⟩⟩⟩⟩⟩⟩⟩
  · rw [ra_cR c30]; exact ⟨rfl, rfl, rfl, rfl⟩
set_option maxHeartbeats 4000000 in
set_option maxRecDepth 20000 in
theorem i_Inv (hz : aSz h = 66) (g : Rg h) (k1 : aCo h 1 = .inr (.inl (6, ka))) (k2 : aCo h 2 = .inr (.inl (24, bo))) (c3 : aCo h 3 = .inl (9, [aQ (some 4), aQ (some 11), aQ (some 18), aQ (some 21), aQ (some 23), aQ (some 28), aQ (some 30), aI 0, aI 0, aI 0])) (c4 : aCo h 4 = oSt 5) (c5 : aCo h 5 = zA 8) (c6 : aCo h 6 = zA 20) (c7 : aCo h 7 = .inr (.inr (0, 6, pgs 9))) (c8 : aCo h 8 = nR 1 60) (c9 : aCo h 9 = .inl (4, [aQ (some 10)])) (c10 : aCo h 10 = nR 2 0) (c11 : aCo h 11 = oSt 12) (c12 : aCo h 12 = zA 8) (c13 : aCo h 13 = zA 20) (c14 : aCo h 14 = .inr (.inr (0, 6, pgs 16))) (c15 : aCo h 15 = nR 1 60) (c16 : aCo h 16 = .inl (4, [aQ (some 17)])) (c17 : aCo h 17 = nR 2 0) (c18 : aCo h 18 = .inl (2, [aQ (some 19), aQ (some 20), aI 0, aQ none, aQ none, aI 0, aI 0])) (c19 : aCo h 19 = zA 441) (c20 : aCo h 20 = zA 20) (c21 : aCo h 21 = .inl (8, [aQ (some 22)])) (c22 : aCo h 22 = zA 6) (c23 : aCo h 23 = .inl (5, [aI 0, aQ (some 24), aQ (some 25), aI 0, aQ (some 26), aQ (some 27)])) (c24 : aCo h 24 = zA 8) (c25 : aCo h 25 = zA 6) (c26 : aCo h 26 = zA 48) (c27 : aCo h 27 = zA 2304) (c28 : aCo h 28 = .inl (0, [aQ (some 29), aI 0])) (c29 : aCo h 29 = zA 50) (c30 : aCo h 30 = .inr (.inr (3, 4, shs))) (c31 : aCo h 31 = .inl (6, [aI (-1), aI 0, aQ (some 32)])) (c32 : aCo h 32 = zA 40) (c33 : aCo h 33 = .inl (6, [aI (-1), aI 0, aQ (some 34)])) (c34 : aCo h 34 = zA 40) (c35 : aCo h 35 = .inl (6, [aI (-1), aI 0, aQ (some 36)])) (c36 : aCo h 36 = zA 40) (c37 : aCo h 37 = .inl (6, [aI (-1), aI 0, aQ (some 38)])) (c38 : aCo h 38 = zA 40) (c39 : aCo h 39 = .inl (10, [aQ (some 40), aQ (some 41), aQ (some 42), aQ (some 43), aQ (some 44), aQ (some 45), aQ (some 46), aQ (some 47), aQ (some 48), aQ (some 49), aQ (some 50), aQ (some 51), aQ (some 52), aQ (some 53), aQ (some 54), aQ (some 55), aI 0, aI 0, aI 0, aQ (some 56), aQ (some 57), aI 0, aQ (some 58), aI 0, aQ (some 59), aQ (some 60), aQ (some 61), aQ (some 62), aI 0, aQ (some 63), aQ (some 64), aQ (some 65)])) (c40 : aCo h 40 = zA 3240) (c41 : aCo h 41 = zA 6) (c42 : aCo h 42 = zA 32400) (c43 : aCo h 43 = zA 60) (c44 : aCo h 44 = zA 540) (c45 : aCo h 45 = zA 60) (c46 : aCo h 46 = zA 60) (c47 : aCo h 47 = zA 60) (c48 : aCo h 48 = zA 60) (c49 : aCo h 49 = zA 60) (c50 : aCo h 50 = zA 60) (c51 : aCo h 51 = zA 60) (c52 : aCo h 52 = zA 8) (c53 : aCo h 53 = zA 20) (c54 : aCo h 54 = .inr (.inl (6, f54))) (c55 : aCo h 55 = zA 36800) (c56 : aCo h 56 = zA 441) (c57 : aCo h 57 = zA 20) (c58 : aCo h 58 = zA 6) (c59 : aCo h 59 = zA 36864) (c60 : aCo h 60 = zA 48) (c61 : aCo h 61 = .inr (.inl (6, f61))) (c62 : aCo h 62 = zA 50) (c63 : aCo h 63 = zA 4) (c64 : aCo h 64 = zA 4) (c65 : aCo h 65 = zA 160) : Inv h := by
  have w : Sh h := i_Sh hz k1 k2 c3 c4 c5 c6 c7 c8 c9 c10 c11 c12 c13 c14 c15 c16 c17 c18 c19 c20 c21 c22 c23 c24 c25 c26 c27 c28 c29 c30 c31 c32 c33 c34 c35 c36 c37 c38 c39 c40 c41 c42 c43 c44 c45 c46 c47 c48 c49 c50 c51 c52 c53 c54 c55 c56 c57 c58 c59 c60 c61 c62 c63 c64 c65
  have r54 : rV h 54 = f54 := (rV_of (by decide) (by decide)).trans (ai_cA c54)
  obtain ⟨e0, e1, e2, e3, e4, e5⟩ := f54_v
  have r40 : rV h 40 = fun _ => 0 := (rV_of (by decide) (by decide)).trans (ai_cA c40)
  have r41 : rV h 41 = fun _ => 0 := (rV_of (by decide) (by decide)).trans (ai_cA c41)
  have r42 : rV h 42 = fun _ => 0 := (rV_of (by decide) (by decide)).trans (ai_cA c42)
  have r43 : rV h 43 = fun _ => 0 := (rV_of (by decide) (by decide)).trans (ai_cA c43)
  have r45 : rV h 45 = fun _ => 0 := (rV_of (by decide) (by decide)).trans (ai_cA c45)
  have r46 : rV h 46 = fun _ => 0 := (rV_of (by decide) (by decide)).trans (ai_cA c46)
  have r47 : rV h 47 = fun _ => 0 := (rV_of (by decide) (by decide)).trans (ai_cA c47)
  have r48 : rV h 48 = fun _ => 0 := (rV_of (by decide) (by decide)).trans (ai_cA c48)
  have r49 : rV h 49 = fun _ => 0 := (rV_of (by decide) (by decide)).trans (ai_cA c49)
  have r50 : rV h 50 = fun _ => 0 := (rV_of (by decide) (by decide)).trans (ai_cA c50)
  have r51 : rV h 51 = fun _ => 0 := (rV_of (by decide) (by decide)).trans (ai_cA c51)
  have r52 : rV h 52 = fun _ => 0 := (rV_of (by decide) (by decide)).trans (ai_cA c52)
  have r53 : rV h 53 = fun _ => 0 := (rV_of (by decide) (by decide)).trans (ai_cA c53)
  have i3_7 : fi h 3 7 = 0 := fi_of (gf_cO c3)
  have i3_8 : fi h 3 8 = 0 := fi_of (gf_cO c3)
  have i3_9 : fi h 3 9 = 0 := fi_of (gf_cO c3)
  have i4_0 : fi h 4 0 = 0 := fi_of (gf_cO c4)
  have i4_2 : fi h 4 2 = 0 := fi_of (gf_cO c4)
  have i4_3 : fi h 4 3 = 0 := fi_of (gf_cO c4)
  have i4_4 : fi h 4 4 = 50 := fi_of (gf_cO c4)
  have i4_5 : fi h 4 5 = 0 := fi_of (gf_cO c4)
  have i4_8 : fi h 4 8 = 0 := fi_of (gf_cO c4)
  have i28_1 : fi h 28 1 = 0 := fi_of (gf_cO c28)
  have i31_0 : fi h 31 0 = (-1) := fi_of (gf_cO c31)
  have i31_1 : fi h 31 1 = 0 := fi_of (gf_cO c31)
  have i33_0 : fi h 33 0 = (-1) := fi_of (gf_cO c33)
  have i33_1 : fi h 33 1 = 0 := fi_of (gf_cO c33)
  have i35_0 : fi h 35 0 = (-1) := fi_of (gf_cO c35)
  have i35_1 : fi h 35 1 = 0 := fi_of (gf_cO c35)
  have i37_0 : fi h 37 0 = (-1) := fi_of (gf_cO c37)
  have i37_1 : fi h 37 1 = 0 := fi_of (gf_cO c37)
  have i39_16 : fi h 39 16 = 0 := fi_of (gf_cO c39)
  have i39_17 : fi h 39 17 = 0 := fi_of (gf_cO c39)
  have i39_18 : fi h 39 18 = 0 := fi_of (gf_cO c39)
  have i39_28 : fi h 39 28 = 0 := fi_of (gf_cO c39)
  have b5 : ai h 5 = fun _ => 0 := ai_cA c5
  have b6 : ai h 6 = fun _ => 0 := ai_cA c6
  have b29 : ai h 29 = fun _ => 0 := ai_cA c29
  have b32 : ai h 32 = fun _ => 0 := ai_cA c32
  have b34 : ai h 34 = fun _ => 0 := ai_cA c34
  have b36 : ai h 36 = fun _ => 0 := ai_cA c36
  have b38 : ai h 38 = fun _ => 0 := ai_cA c38
  have b62 : ai h 62 = fun _ => 0 := ai_cA c62
  have b63 : ai h 63 = fun _ => 0 := ai_cA c63
  have b64 : ai h 64 = fun _ => 0 := ai_cA c64
  have b65 : ai h 65 = fun _ => 0 := ai_cA c65
  have b61 : ai h 61 = f61 := ai_cA c61
  have o9 : isO h 9 4 = true := isO_c c9 (by decide) (by omega) rfl
  have q9 : gf h 9 0 = aQ (some 10) := gf_cO c9
  have v : VOK (rV h) := by
    refine ⟨?_, fun f h1 h2 => ?_, fun p h1 h2 => ?_, fun i h1 h2 => ?_, fun k h1 h2 => ?_⟩
    · rw [r54, e0, e1, e2, e3, e4, e5]
      exact ⟨⟨by decide, by decide⟩, ⟨by decide, by decide⟩, ⟨by decide, by decide⟩, ⟨by decide, by decide⟩, ⟨by decide, by decide⟩, ⟨by decide, by decide⟩⟩
    · rw [r41]
      exact ⟨⟨Int.le_refl 0, (by decide : (0 : Int) ≤ 20)⟩, fun i k1 k2 => absurd (show i < 0 from k2) (by omega)⟩
    · rw [r54, e0] at h2
      omega
    · rw [r54, e2] at h2
      omega
    · rw [r54, e1] at h2
      omega
  refine ⟨⟨w, g⟩, v, ⟨?_, fun j h1 h2 => ?_, fun j h1 h2 => ?_, fun f h1 h2 => ?_, fun k h1 h2 => ?_, fun k h1 h2 => ?_⟩, Or.inl ⟨i39_16, i3_7⟩, ⟨by rw [i3_8, i39_17], by rw [i39_17]; exact ⟨by decide, by decide⟩, by rw [i3_9, i39_18]⟩, ⟨by rw [i28_1, i39_28], by rw [i39_28]; exact ⟨by decide, by decide⟩, fun j h1 h2 => ?_⟩, ⟨⟨?_, ?_, ?_, ?_, fun j h1 h2 => ?_⟩, ⟨?_, ?_, ?_, ?_, fun j h1 h2 => ?_⟩, ⟨?_, ?_, ?_, ?_, fun j h1 h2 => ?_⟩, ⟨?_, ?_, ?_, ?_, fun j h1 h2 => ?_⟩⟩, ?_⟩
  · rw [r54, e0, e1, e2, e3, e4, e5, i4_0, i4_2, i4_3, i4_4, i4_5, i4_8]
    exact ⟨rfl, rfl, rfl, rfl, rfl, rfl⟩
  · rw [r52]
    show ai h 5 j = 0
    rw [b5]
  · rw [r53]
    show ai h 6 j = 0
    rw [b6]
  · refine ⟨9, ?_, by decide, o9, 10, q9, by decide, isR_c c10 (by decide) (by omega), ?_, fun i k1 k2 => ?_⟩
    · show ra h 7 f = some 9
      rw [ra_cR c7]
      exact pgs_at h1 h2
    · rw [al_cR c10, r41]
      rfl
    · rw [r41] at k2
      exact absurd (show i < 0 from k2) (by omega)
  · rw [r54, e1] at h2
    omega
  · refine Or.inl ?_
    show ra h 8 k = none
    rw [ra_cR c8]
  · rw [i39_28] at h2
    omega
  · rw [i31_0, b63]; rfl
  · rw [i31_1, b64]
  · rw [b63]; exact ⟨Int.le_refl 0, (by decide : (0 : Int) ≤ 3)⟩
  · rw [b64]; exact ⟨Int.le_refl 0, (by decide : (0 : Int) ≤ 40)⟩
  · rw [b32, b65]
  · rw [i33_0, b63]; rfl
  · rw [i33_1, b64]
  · rw [b63]; exact ⟨Int.le_refl 0, (by decide : (0 : Int) ≤ 3)⟩
  · rw [b64]; exact ⟨Int.le_refl 0, (by decide : (0 : Int) ≤ 40)⟩
  · rw [b34, b65]
  · rw [i35_0, b63]; rfl
  · rw [i35_1, b64]
  · rw [b63]; exact ⟨Int.le_refl 0, (by decide : (0 : Int) ≤ 3)⟩
  · rw [b64]; exact ⟨Int.le_refl 0, (by decide : (0 : Int) ≤ 40)⟩
  · rw [b36, b65]
  · rw [i37_0, b63]; rfl
  · rw [i37_1, b64]
  · rw [b63]; exact ⟨Int.le_refl 0, (by decide : (0 : Int) ≤ 3)⟩
  · rw [b64]; exact ⟨Int.le_refl 0, (by decide : (0 : Int) ≤ 40)⟩
  · rw [b38, b65]
  · unfold PwI; rw [b61]; exact ⟨rfl, rfl, rfl, rfl, rfl, rfl⟩
end I86
