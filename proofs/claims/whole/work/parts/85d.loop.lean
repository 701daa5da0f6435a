theorem law_inc (k : Nat) : nI (5 * k) + Int32.ofInt 5 = nI (5 * (k + 1)) := by
  rw [show Int32.ofInt 5 = nI 5 by decide +kernel, nI_add, show 5 * k + 5 = 5 * (k + 1) by omega]
theorem law_in {k L : Nat} {x : Int32} (j : Nat) (hx : x = nI j) (h : k + j < L) (hL : L < 2 ^ 31) : vp_in (nI k + x) L := by
  rw [hx, nI_add]
  exact vp_in_nI h hL
theorem law_sub (L : Nat) (hL : L ≤ 2560) : (Int32.ofNat L - 5).toInt = (L : Int) - 5 := by
  have h := pk_sub_toInt (a := L) (b := 5) (by omega) (by omega)
  exact h
theorem law_gt {k L : Nat} (h : L < 5 * k + 5) (hL : L ≤ 2560) (hk : 5 * k < 2 ^ 31) : Int32.ofNat L - 5 < nI (5 * k) := by
  rw [Int32.lt_iff_toInt_lt, law_sub L hL, nI_toInt hk]
  omega
theorem law_le {k L : Nat} (hL : L ≤ 2560) (h5 : 5 * k ≤ L + 5) (q : ¬ Int32.ofNat L - 5 < nI (5 * k)) : 5 * k + 5 ≤ L := by
  rw [Int32.lt_iff_toInt_lt, law_sub L hL, nI_toInt (by omega)] at q
  omega
set_option maxHeartbeats 4000000 in
set_option maxRecDepth 100000 in
theorem law_loop {p : Program} {l : Launch} {e : Env} {s : State} {m : MethodId} {below : List Frame} {meth : Method} {c : Code} {b L : Nat} {xs : Nat → Int32} {Q : State → Prop} {D : va_G} {cy : Nat → ClassId} {ax am : Nat → Nat} {cells slots : Nat} (C : LCx p s m c b L xs D cy ax am) (hcs : cells + 0 ≤ room_1.cells ∧ slots + 0 ≤ room_1.slots) (hL : L ≤ 2560) {Rel : Nat → Mm → Mm → Prop} (S : Sims Rel) (fin : ∀ (MX MM : Mm) (v3 : Int32), VL p l e s m below meth c b Q D cy ax am cells slots MX MM [(0, .ref b), (1, .ref (ax 0)), (2, .ref (am 0)), (3, .int v3)] 834 []) : ∀ (n k : Nat) (MX MM : Mm), Rel k MX MM → 5 * k ≤ L + 5 → L < 5 * k + 5 * n → VL p l e s m below meth c b Q D cy ax am cells slots MX MM [(0, .ref b), (1, .ref (ax 0)), (2, .ref (am 0)), (3, .int (nI (5 * k)))] 18 [] := by
  intro n
  induction n with
  | zero =>
    intro k MX MM hR h5 hn
    refine VL_iload_n C 3 dL_law_18 rfl ?_
    refine VL_aload_n C 0 dL_law_19 rfl ?_
    refine VL_slen C dL_law_20 ?_
    refine VL_iconst (v := 5) C dL_law_21 (by decide) ?_
    refine VL_isub C dL_law_22 ?_
    refine VL_icmp_gt C 834 dL_law_23 (by decide) (fun _ => fin MX MM _) (fun q => absurd (law_gt (by omega) hL (by omega)) q)
  | succ n ih =>
    intro k MX MM hR h5 hn
    refine VL_iload_n C 3 dL_law_18 rfl ?_
    refine VL_aload_n C 0 dL_law_19 rfl ?_
    refine VL_slen C dL_law_20 ?_
    refine VL_iconst (v := 5) C dL_law_21 (by decide) ?_
    refine VL_isub C dL_law_22 ?_
    refine VL_icmp_gt C 834 dL_law_23 (by decide) (fun _ => fin MX MM _) (fun q => ?_)
    have hkL : 5 * k + 5 ≤ L := law_le hL h5 q
    have hk : k < 512 := by omega
    have g0 : vp_in (nI (5 * k)) L := vp_in_nI (by omega) (by omega)
    have g1 : vp_in (nI (5 * k) + 1) L := law_in 1 (by decide) (by omega) (by omega)
    have g2 : vp_in (nI (5 * k) + 2) L := law_in 2 (by decide) (by omega) (by omega)
    have g3 : vp_in (nI (5 * k) + 3) L := law_in 3 (by decide) (by omega) (by omega)
    have g4 : vp_in (nI (5 * k) + 4) L := law_in 4 (by decide) (by omega) (by omega)
    have next : ∀ MX1 MM1 : Mm, Rel (k + 1) MX1 MM1 → VL p l e s m below meth c b Q D cy ax am cells slots MX1 MM1 [(0, .ref b), (1, .ref (ax 0)), (2, .ref (am 0)), (3, .int (nI (5 * k)))] 828 [] := by
      intro MX1 MM1 hR1
      refine VL_iinc (v := nI (5 * (k + 1))) (lv' := [(3, .int (nI (5 * (k + 1)))), (0, .ref b), (1, .ref (ax 0)), (2, .ref (am 0))]) C 3 dL_law_828 rfl (law_inc k) (by decide) rfl ?_
      refine VL_goto C 18 dL_law_831 (by decide) ?_
      refine VL_drop (lv' := [(0, .ref b), (1, .ref (ax 0)), (2, .ref (am 0)), (3, .int (nI (5 * (k + 1))))]) [1, 2, 3, 0] rfl ?_
      exact ih (k + 1) MX1 MM1 hR1 (by omega) (by omega)
    refine VL_aload_n C 0 dL_law_26 rfl ?_
    refine VL_iload_n C 3 dL_law_27 rfl ?_
    refine VL_sld C dL_law_28 g0 ?_
    refine VL_bipush (v := 31) C dL_law_29 (by decide) ?_
    refine VL_iand C dL_law_31 ?_
    generalize xs (nI (5 * k)).toNatClampNeg &&& 31 = z
    by_cases q0 : z = 0
    · exact VL_tswIn C 144 dL_law_32 (by rw [q0]; decide) (by rw [q0]; decide) (by rw [q0]; rfl) (by decide) (law_c0 C hcs S hk hR g1 next)
    by_cases q1 : z = 1
    · exact VL_tswIn C 167 dL_law_32 (by rw [q1]; decide) (by rw [q1]; decide) (by rw [q1]; rfl) (by decide) (law_c1 C hcs S hk hR  next)
    by_cases q2 : z = 2
    · exact VL_tswIn C 180 dL_law_32 (by rw [q2]; decide) (by rw [q2]; decide) (by rw [q2]; rfl) (by decide) (law_c2 C hcs S hk hR  next)
    by_cases q3 : z = 3
    · exact VL_tswIn C 193 dL_law_32 (by rw [q3]; decide) (by rw [q3]; decide) (by rw [q3]; rfl) (by decide) (law_c3 C hcs S hk hR  next)
    by_cases q4 : z = 4
    · exact VL_tswIn C 206 dL_law_32 (by rw [q4]; decide) (by rw [q4]; decide) (by rw [q4]; rfl) (by decide) (law_c4 C hcs S hk hR g1 g2 next)
    by_cases q5 : z = 5
    · exact VL_tswIn C 239 dL_law_32 (by rw [q5]; decide) (by rw [q5]; decide) (by rw [q5]; rfl) (by decide) (law_c5 C hcs S hk hR g1 g2 next)
    by_cases q6 : z = 6
    · exact VL_tswIn C 272 dL_law_32 (by rw [q6]; decide) (by rw [q6]; decide) (by rw [q6]; rfl) (by decide) (law_c6 C hcs S hk hR g1 g2 next)
    by_cases q7 : z = 7
    · exact VL_tswIn C 305 dL_law_32 (by rw [q7]; decide) (by rw [q7]; decide) (by rw [q7]; rfl) (by decide) (law_c7 C hcs S hk hR g1 g2 g3 next)
    by_cases q8 : z = 8
    · exact VL_tswIn C 348 dL_law_32 (by rw [q8]; decide) (by rw [q8]; decide) (by rw [q8]; rfl) (by decide) (law_c8 C hcs S hk hR g1 g2 g3 next)
    by_cases q9 : z = 9
    · exact VL_tswIn C 391 dL_law_32 (by rw [q9]; decide) (by rw [q9]; decide) (by rw [q9]; rfl) (by decide) (law_c9 C hcs S hk hR g1 next)
    by_cases q10 : z = 10
    · exact VL_tswIn C 414 dL_law_32 (by rw [q10]; decide) (by rw [q10]; decide) (by rw [q10]; rfl) (by decide) (law_c10 C hcs S hk hR g1 next)
    by_cases q11 : z = 11
    · exact VL_tswIn C 437 dL_law_32 (by rw [q11]; decide) (by rw [q11]; decide) (by rw [q11]; rfl) (by decide) (law_c11 C hcs S hk hR g1 next)
    by_cases q12 : z = 12
    · exact VL_tswIn C 460 dL_law_32 (by rw [q12]; decide) (by rw [q12]; decide) (by rw [q12]; rfl) (by decide) (law_c12 C hcs S hk hR g1 g2 next)
    by_cases q13 : z = 13
    · exact VL_tswIn C 493 dL_law_32 (by rw [q13]; decide) (by rw [q13]; decide) (by rw [q13]; rfl) (by decide) (law_c13 C hcs S hk hR g1 g2 g3 g4 next)
    by_cases q14 : z = 14
    · exact VL_tswIn C 546 dL_law_32 (by rw [q14]; decide) (by rw [q14]; decide) (by rw [q14]; rfl) (by decide) (law_c14 C hcs S hk hR g1 next)
    by_cases q15 : z = 15
    · exact VL_tswIn C 569 dL_law_32 (by rw [q15]; decide) (by rw [q15]; decide) (by rw [q15]; rfl) (by decide) (law_c15 C hcs S hk hR g1 g2 next)
    by_cases q16 : z = 16
    · exact VL_tswIn C 602 dL_law_32 (by rw [q16]; decide) (by rw [q16]; decide) (by rw [q16]; rfl) (by decide) (law_c16 C hcs S hk hR g1 g2 g3 g4 next)
    by_cases q17 : z = 17
    · exact VL_tswIn C 656 dL_law_32 (by rw [q17]; decide) (by rw [q17]; decide) (by rw [q17]; rfl) (by decide) (law_c17 C hcs S hk hR g1 g2 g3 g4 next)
    by_cases q18 : z = 18
    · exact VL_tswIn C 709 dL_law_32 (by rw [q18]; decide) (by rw [q18]; decide) (by rw [q18]; rfl) (by decide) (law_c18 C hcs S hk hR  next)
    by_cases q19 : z = 19
    · exact VL_tswIn C 722 dL_law_32 (by rw [q19]; decide) (by rw [q19]; decide) (by rw [q19]; rfl) (by decide) (law_c19 C hcs S hk hR g1 g2 g3 next)
    by_cases q20 : z = 20
    · exact VL_tswIn C 765 dL_law_32 (by rw [q20]; decide) (by rw [q20]; decide) (by rw [q20]; rfl) (by decide) (law_c20 C hcs S hk hR  next)
    by_cases q21 : z = 21
    · exact VL_tswIn C 778 dL_law_32 (by rw [q21]; decide) (by rw [q21]; decide) (by rw [q21]; rfl) (by decide) (law_c21 C hcs S hk hR  next)
    by_cases q22 : z = 22
    · exact VL_tswIn C 791 dL_law_32 (by rw [q22]; decide) (by rw [q22]; decide) (by rw [q22]; rfl) (by decide) (law_c22 C hcs S hk hR g1 next)
    by_cases q23 : z = 23
    · exact VL_tswIn C 814 dL_law_32 (by rw [q23]; decide) (by rw [q23]; decide) (by rw [q23]; rfl) (by decide) (law_c23 C hcs S hk hR  next)
    exact VL_tswOut C 828 dL_law_32 (by have := lv_neT q0 (show (0 : Int32).toInt = 0 by decide); have := lv_neT q1 (show (1 : Int32).toInt = 1 by decide); have := lv_neT q2 (show (2 : Int32).toInt = 2 by decide); have := lv_neT q3 (show (3 : Int32).toInt = 3 by decide); have := lv_neT q4 (show (4 : Int32).toInt = 4 by decide); have := lv_neT q5 (show (5 : Int32).toInt = 5 by decide); have := lv_neT q6 (show (6 : Int32).toInt = 6 by decide); have := lv_neT q7 (show (7 : Int32).toInt = 7 by decide); have := lv_neT q8 (show (8 : Int32).toInt = 8 by decide); have := lv_neT q9 (show (9 : Int32).toInt = 9 by decide); have := lv_neT q10 (show (10 : Int32).toInt = 10 by decide); have := lv_neT q11 (show (11 : Int32).toInt = 11 by decide); have := lv_neT q12 (show (12 : Int32).toInt = 12 by decide); have := lv_neT q13 (show (13 : Int32).toInt = 13 by decide); have := lv_neT q14 (show (14 : Int32).toInt = 14 by decide); have := lv_neT q15 (show (15 : Int32).toInt = 15 by decide); have := lv_neT q16 (show (16 : Int32).toInt = 16 by decide); have := lv_neT q17 (show (17 : Int32).toInt = 17 by decide); have := lv_neT q18 (show (18 : Int32).toInt = 18 by decide); have := lv_neT q19 (show (19 : Int32).toInt = 19 by decide); have := lv_neT q20 (show (20 : Int32).toInt = 20 by decide); have := lv_neT q21 (show (21 : Int32).toInt = 21 by decide); have := lv_neT q22 (show (22 : Int32).toInt = 22 by decide); have := lv_neT q23 (show (23 : Int32).toInt = 23 by decide); omega) (by decide) (next MX MM (S.1 k MX MM hk hR))
