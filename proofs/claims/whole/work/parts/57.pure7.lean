/-! ===== a house taken over whole; the image ===== -/
def CP (b K J : Nat) (s : Nat → Nat) (f : Nat → Nat → Nat) (M0 M : Mm) : Prop := (∀ k, k < K → M.1 b (slX k) = nI (s k)) ∧ (∀ j i, j < J → i < lnH j → M.1 (b + 7 + j) i = enc j (f j i)) ∧ outH b M0 M
theorem CP.hx {b b2 K J : Nat} {s : Nat → Nat} {f : Nat → Nat → Nat} {M0 M : Mm} (h : CP b K J s f M0 M) (h2 : HX b2 M0 s f) (hd : b + 19 ≤ b2 ∨ b2 + 19 ≤ b) : HX b2 M s f := h2.cg (fun n h1 h3 => h.2.2 n (by omega))
theorem CP.slot {b b2 K : Nat} {s : Nat → Nat} {f : Nat → Nat → Nat} {M0 M M1 : Mm} (h : CP b K 0 s f M0 M) (h2 : HX b2 M0 s f) (hd : b + 19 ≤ b2 ∨ b2 + 19 ≤ b) (hK : K < 5) (e : M1 = wI M b (upd (M.1 b) (slX K) (M.1 b2 (slX K)))) : CP b (K + 1) 0 s f M0 M1 := by
  have g := (h.hx h2 hd).1 K hK
  have g' : M.1 b2 (slX K) = nI (s K) := g
  rw [g'] at e
  refine ⟨fun k hk => ?_, fun j i hj => absurd hj (by omega), fun n hn => ?_⟩
  · rw [e, wI_same]
    by_cases z : k = K
    · rw [z, pk_us]
    · rw [pk_un (fun q => z (slX_inj (by omega) hK q))]
      exact h.1 k (by omega)
  · rw [e, wI_ne _ _ (by omega)]
    exact h.2.2 n hn
theorem CP.row {b b2 J : Nat} {s : Nat → Nat} {f : Nat → Nat → Nat} {M0 M M1 : Mm} (h : CP b 5 J s f M0 M) (h2 : HX b2 M0 s f) (hd : b + 19 ≤ b2 ∨ b2 + 19 ≤ b) (hJ : J < 12) {r r2 n : Nat} (hr : r = b + 7 + J) (hr2 : r2 = b2 + 7 + J) (hn : n = lnH J) (e : M1 = wI M r (va_cpy (M.1 r2) (M.1 r) (0 : Int32).toNatClampNeg (0 : Int32).toNatClampNeg n)) : CP b 5 (J + 1) s f M0 M1 := by
  have z0 : (0 : Int32).toNatClampNeg = 0 := by decide
  rw [z0] at e
  subst hr hr2 hn
  refine ⟨fun k hk => ?_, fun j i hj hi => ?_, fun n hn => ?_⟩
  · rw [e, wI_ne _ _ (by omega)]
    exact h.1 k hk
  · by_cases z : j = J
    · subst z
      rw [e, wI_same, pk_cpy_in (by omega) (by omega)]
      have g : M.1 (b2 + 7 + j) i = enc j (f j i) := (h.hx h2 hd).2 j i hJ hi
      rw [show 0 + (i - 0) = i by omega]
      exact g
    · rw [e, wI_ne _ _ (by omega)]
      exact h.2.1 j i (by omega) hi
  · rw [e, wI_ne _ _ (by omega)]
    exact h.2.2 n hn
theorem sX_copy {b b2 : Nat} {M : Mm} {s : Nat → Nat} {f : Nat → Nat → Nat} {post : Mm → Prop} (hd : b + 19 ≤ b2 ∨ b2 + 19 ≤ b) (h2 : HX b2 M s f) (h : ∀ M1, HX b M1 s f → outH b M M1 → post M1) : w_X2_copyFrom b b2 M post := by
  unfold w_X2_copyFrom
  have c0 : CP b 0 0 s f M M := ⟨fun k hk => absurd hk (by omega), fun j i hj => absurd hj (by omega), fun n hn => rfl⟩
  intro M1 e1 M3 e3 M5 e5 M7 e7 M9 e9 M11 e11 M13 e13 M15 e15 M17 e17 M19 e19 M21 e21 M23 e23 M25 e25 M27 e27 M29 e29 M31 e31 M33 e33
  have d0 := CP.slot c0 h2 hd (by decide) e1
  have d1 := CP.slot d0 h2 hd (by decide) e3
  have d2 := CP.slot d1 h2 hd (by decide) e5
  have d3 := CP.slot d2 h2 hd (by decide) e7
  have d4 := CP.slot d3 h2 hd (by decide) e9
  have r0 : CP b 5 0 s f M M9 := d4
  have r1 := CP.row r0 h2 hd (by decide) (by omega) (by omega) (by decide) e11
  have r2 := CP.row r1 h2 hd (by decide) (by omega) (by omega) (by decide) e13
  have r3 := CP.row r2 h2 hd (by decide) (by omega) (by omega) (by decide) e15
  have r4 := CP.row r3 h2 hd (by decide) (by omega) (by omega) (by decide) e17
  have r5 := CP.row r4 h2 hd (by decide) (by omega) (by omega) (by decide) e19
  have r6 := CP.row r5 h2 hd (by decide) (by omega) (by omega) (by decide) e21
  have r7 := CP.row r6 h2 hd (by decide) (by omega) (by omega) (by decide) e23
  have r8 := CP.row r7 h2 hd (by decide) (by omega) (by omega) (by decide) e25
  have r9 := CP.row r8 h2 hd (by decide) (by omega) (by omega) (by decide) e27
  have r10 := CP.row r9 h2 hd (by decide) (by omega) (by omega) (by decide) e29
  have r11 := CP.row r10 h2 hd (by decide) (by omega) (by omega) (by decide) e31
  have r12 := CP.row r11 h2 hd (by decide) (by omega) (by omega) (by decide) e33
  exact h M33 ⟨r12.1, r12.2.1⟩ r12.2.2
theorem cp1 {M M1 : Mm} {r q v : Nat} {g : Nat → Int32} (e : M1 = wI M r (upd (M.1 r) v (M.1 q v))) (hq : M.1 q v = g v) (h : ∀ i, i < v → M.1 r i = g i) : ∀ i, i < v + 1 → M1.1 r i = g i := by
  intro i hi
  rw [e, wI_same]
  by_cases z : i = v
  · rw [z, pk_us, hq]
  · rw [pk_un z]
    exact h i (by omega)
theorem cpo {M M1 : Mm} {r n : Nat} {F : Nat → Int32} (e : M1 = wI M r F) (h : n ≠ r) : M1.1 n = M.1 n := by rw [e, wI_ne _ _ h]
theorem lp_i6 {g : Nat → Nat → Int32} {M0 : Mm} {post : Int32 → Mm → Prop} (hs : ∀ i, i < 6 → M0.1 9 i = g 29 i ∧ M0.1 10 i = g 30 i ∧ M0.1 11 i = g 31 i ∧ M0.1 12 i = g 32 i) (hc : ∀ M1 : Mm, (∀ i, i < 6 → M1.1 29 i = g 29 i ∧ M1.1 30 i = g 30 i ∧ M1.1 31 i = g 31 i ∧ M1.1 32 i = g 32 i) → (∀ n, n ≠ 29 → n ≠ 30 → n ≠ 31 → n ≠ 32 → M1.1 n = M0.1 n) → w_X12_tookAll M1 (fun r2 M3 => post r2 M3)) : ∀ m v M, v + m = 6 → (∀ i, i < v → M.1 29 i = g 29 i ∧ M.1 30 i = g 30 i ∧ M.1 31 i = g 31 i ∧ M.1 32 i = g 32 i) → (∀ n, n ≠ 29 → n ≠ 30 → n ≠ 31 → n ≠ 32 → M.1 n = M0.1 n) → w_X12_image_128 post (m + 1) (nI v) M := by
  intro m
  induction m with
  | zero =>
    intro v M hv h1 h2
    obtain rfl : v = 6 := by omega
    exact pb_t (by decide) (hc M h1 h2)
  | succ m ih =>
    intro v M hv h1 h2
    refine pk_le 6 v (fun z => absurd z (by omega)) (fun _ => ⟨vp_i (by omega) (by decide), fun N0 d0 N1 d1 N2 d2 N3 d3 => ?_⟩)
    rw [cl_i (by omega)] at d0 d1 d2 d3
    rw [nI_1]
    have hv1 := hs v (by omega)
    have q0 : M.1 9 = M0.1 9 := by rw [h2 9 (by decide) (by decide) (by decide) (by decide)]
    have u0 : ∀ i, i < v → M.1 29 i = g 29 i := fun i hi => by rw [show M.1 29 i = M.1 29 i from rfl]; exact (h1 i hi).1
    have w0 := cp1 d0 (g := g 29) (by rw [q0]; exact hv1.1) u0
    have q1 : N0.1 10 = M0.1 10 := by rw [cpo d0 (n := 10) (by decide), h2 10 (by decide) (by decide) (by decide) (by decide)]
    have u1 : ∀ i, i < v → N0.1 30 i = g 30 i := fun i hi => by rw [cpo d0 (n := 30) (by decide)]; exact (h1 i hi).2.1
    have w1 := cp1 d1 (g := g 30) (by rw [q1]; exact hv1.2.1) u1
    have q2 : N1.1 11 = M0.1 11 := by rw [cpo d1 (n := 11) (by decide), cpo d0 (n := 11) (by decide), h2 11 (by decide) (by decide) (by decide) (by decide)]
    have u2 : ∀ i, i < v → N1.1 31 i = g 31 i := fun i hi => by rw [cpo d1 (n := 31) (by decide), cpo d0 (n := 31) (by decide)]; exact (h1 i hi).2.2.1
    have w2 := cp1 d2 (g := g 31) (by rw [q2]; exact hv1.2.2.1) u2
    have q3 : N2.1 12 = M0.1 12 := by rw [cpo d2 (n := 12) (by decide), cpo d1 (n := 12) (by decide), cpo d0 (n := 12) (by decide), h2 12 (by decide) (by decide) (by decide) (by decide)]
    have u3 : ∀ i, i < v → N2.1 32 i = g 32 i := fun i hi => by rw [cpo d2 (n := 32) (by decide), cpo d1 (n := 32) (by decide), cpo d0 (n := 32) (by decide)]; exact (h1 i hi).2.2.2
    have w3 := cp1 d3 (g := g 32) (by rw [q3]; exact hv1.2.2.2) u3
    refine ih (v + 1) N3 (by omega) (fun i hi => ⟨?_, ?_, ?_, ?_⟩) (fun n o0 o1 o2 o3 => ?_)
    · rw [cpo d3 (n := 29) (by decide), cpo d2 (n := 29) (by decide), cpo d1 (n := 29) (by decide)]; exact w0 i hi
    · rw [cpo d3 (n := 30) (by decide), cpo d2 (n := 30) (by decide)]; exact w1 i hi
    · rw [cpo d3 (n := 31) (by decide)]; exact w2 i hi
    · rw [show N3.1 32 i = N3.1 32 i from rfl]; exact w3 i hi
    · rw [cpo d3 o3, cpo d2 o2, cpo d1 o1, cpo d0 o0]; exact h2 n o0 o1 o2 o3
theorem lp_i5 {g : Nat → Nat → Int32} {M0 : Mm} {post : Int32 → Mm → Prop} (hs : ∀ i, i < 5 → M0.1 5 i = g 25 i ∧ M0.1 6 i = g 26 i ∧ M0.1 7 i = g 27 i ∧ M0.1 8 i = g 28 i) (hc : ∀ M1 : Mm, (∀ i, i < 5 → M1.1 25 i = g 25 i ∧ M1.1 26 i = g 26 i ∧ M1.1 27 i = g 27 i ∧ M1.1 28 i = g 28 i) → (∀ n, n ≠ 25 → n ≠ 26 → n ≠ 27 → n ≠ 28 → M1.1 n = M0.1 n) → ∃ n0 : Nat, w_X12_image_128 post n0 (0 : Int32) M1) : ∀ m v M, v + m = 5 → (∀ i, i < v → M.1 25 i = g 25 i ∧ M.1 26 i = g 26 i ∧ M.1 27 i = g 27 i ∧ M.1 28 i = g 28 i) → (∀ n, n ≠ 25 → n ≠ 26 → n ≠ 27 → n ≠ 28 → M.1 n = M0.1 n) → w_X12_image_67 post (m + 1) (nI v) M := by
  intro m
  induction m with
  | zero =>
    intro v M hv h1 h2
    obtain rfl : v = 5 := by omega
    exact pb_t (by decide) (hc M h1 h2)
  | succ m ih =>
    intro v M hv h1 h2
    refine pk_le 5 v (fun z => absurd z (by omega)) (fun _ => ⟨vp_i (by omega) (by decide), fun N0 d0 N1 d1 N2 d2 N3 d3 => ?_⟩)
    rw [cl_i (by omega)] at d0 d1 d2 d3
    rw [nI_1]
    have hv1 := hs v (by omega)
    have q0 : M.1 5 = M0.1 5 := by rw [h2 5 (by decide) (by decide) (by decide) (by decide)]
    have u0 : ∀ i, i < v → M.1 25 i = g 25 i := fun i hi => by rw [show M.1 25 i = M.1 25 i from rfl]; exact (h1 i hi).1
    have w0 := cp1 d0 (g := g 25) (by rw [q0]; exact hv1.1) u0
    have q1 : N0.1 6 = M0.1 6 := by rw [cpo d0 (n := 6) (by decide), h2 6 (by decide) (by decide) (by decide) (by decide)]
    have u1 : ∀ i, i < v → N0.1 26 i = g 26 i := fun i hi => by rw [cpo d0 (n := 26) (by decide)]; exact (h1 i hi).2.1
    have w1 := cp1 d1 (g := g 26) (by rw [q1]; exact hv1.2.1) u1
    have q2 : N1.1 7 = M0.1 7 := by rw [cpo d1 (n := 7) (by decide), cpo d0 (n := 7) (by decide), h2 7 (by decide) (by decide) (by decide) (by decide)]
    have u2 : ∀ i, i < v → N1.1 27 i = g 27 i := fun i hi => by rw [cpo d1 (n := 27) (by decide), cpo d0 (n := 27) (by decide)]; exact (h1 i hi).2.2.1
    have w2 := cp1 d2 (g := g 27) (by rw [q2]; exact hv1.2.2.1) u2
    have q3 : N2.1 8 = M0.1 8 := by rw [cpo d2 (n := 8) (by decide), cpo d1 (n := 8) (by decide), cpo d0 (n := 8) (by decide), h2 8 (by decide) (by decide) (by decide) (by decide)]
    have u3 : ∀ i, i < v → N2.1 28 i = g 28 i := fun i hi => by rw [cpo d2 (n := 28) (by decide), cpo d1 (n := 28) (by decide), cpo d0 (n := 28) (by decide)]; exact (h1 i hi).2.2.2
    have w3 := cp1 d3 (g := g 28) (by rw [q3]; exact hv1.2.2.2) u3
    refine ih (v + 1) N3 (by omega) (fun i hi => ⟨?_, ?_, ?_, ?_⟩) (fun n o0 o1 o2 o3 => ?_)
    · rw [cpo d3 (n := 25) (by decide), cpo d2 (n := 25) (by decide), cpo d1 (n := 25) (by decide)]; exact w0 i hi
    · rw [cpo d3 (n := 26) (by decide), cpo d2 (n := 26) (by decide)]; exact w1 i hi
    · rw [cpo d3 (n := 27) (by decide)]; exact w2 i hi
    · rw [show N3.1 28 i = N3.1 28 i from rfl]; exact w3 i hi
    · rw [cpo d3 o3, cpo d2 o2, cpo d1 o1, cpo d0 o0]; exact h2 n o0 o1 o2 o3
theorem lp_i7 {g : Nat → Nat → Int32} {M0 : Mm} {post : Int32 → Mm → Prop} (hs : ∀ i, i < 7 → M0.1 3 i = g 24 i) (hc : ∀ M1 : Mm, (∀ i, i < 7 → M1.1 24 i = g 24 i) → (∀ n, n ≠ 24 → M1.1 n = M0.1 n) → ∃ n0 : Nat, w_X12_image_67 post n0 (0 : Int32) M1) : ∀ m v M, v + m = 7 → (∀ i, i < v → M.1 24 i = g 24 i) → (∀ n, n ≠ 24 → M.1 n = M0.1 n) → w_X12_image_41 post (m + 1) (nI v) M := by
  intro m
  induction m with
  | zero =>
    intro v M hv h1 h2
    obtain rfl : v = 7 := by omega
    exact pb_t (by decide) (hc M h1 h2)
  | succ m ih =>
    intro v M hv h1 h2
    refine pk_le 7 v (fun z => absurd z (by omega)) (fun _ => ⟨vp_i (by omega) (by decide), fun N0 d0 => ?_⟩)
    rw [cl_i (by omega)] at d0
    rw [nI_1]
    have hv1 := hs v (by omega)
    have q0 : M.1 3 = M0.1 3 := by rw [h2 3 (by decide)]
    have u0 : ∀ i, i < v → M.1 24 i = g 24 i := fun i hi => by rw [show M.1 24 i = M.1 24 i from rfl]; exact (h1 i hi)
    have w0 := cp1 d0 (g := g 24) (by rw [q0]; exact hv1) u0
    refine ih (v + 1) N0 (by omega) (fun i hi => ?_) (fun n o0 => ?_)
    · rw [show N0.1 24 i = N0.1 24 i from rfl]; exact w0 i hi
    · rw [cpo d0 o0]; exact h2 n o0
theorem lp_r6 {g : Nat → Nat → Int32} {M0 : Mm} {post : Int32 → Mm → Prop} (hs : ∀ i, i < 6 → M0.1 29 i = g 9 i ∧ M0.1 30 i = g 10 i ∧ M0.1 31 i = g 11 i ∧ M0.1 32 i = g 12 i) (hc : ∀ M1 : Mm, (∀ i, i < 6 → M1.1 9 i = g 9 i ∧ M1.1 10 i = g 10 i ∧ M1.1 11 i = g 11 i ∧ M1.1 12 i = g 12 i) → (∀ n, n ≠ 9 → n ≠ 10 → n ≠ 11 → n ≠ 12 → M1.1 n = M0.1 n) → w_X12_tookAll M1 (fun r2 M3 => post r2 M3)) : ∀ m v M, v + m = 6 → (∀ i, i < v → M.1 9 i = g 9 i ∧ M.1 10 i = g 10 i ∧ M.1 11 i = g 11 i ∧ M.1 12 i = g 12 i) → (∀ n, n ≠ 9 → n ≠ 10 → n ≠ 11 → n ≠ 12 → M.1 n = M0.1 n) → w_X12_restore_126 post (m + 1) (nI v) M := by
  intro m
  induction m with
  | zero =>
    intro v M hv h1 h2
    obtain rfl : v = 6 := by omega
    exact pb_t (by decide) (hc M h1 h2)
  | succ m ih =>
    intro v M hv h1 h2
    refine pk_le 6 v (fun z => absurd z (by omega)) (fun _ => ⟨vp_i (by omega) (by decide), fun N0 d0 N1 d1 N2 d2 N3 d3 => ?_⟩)
    rw [cl_i (by omega)] at d0 d1 d2 d3
    rw [nI_1]
    have hv1 := hs v (by omega)
    have q0 : M.1 29 = M0.1 29 := by rw [h2 29 (by decide) (by decide) (by decide) (by decide)]
    have u0 : ∀ i, i < v → M.1 9 i = g 9 i := fun i hi => by rw [show M.1 9 i = M.1 9 i from rfl]; exact (h1 i hi).1
    have w0 := cp1 d0 (g := g 9) (by rw [q0]; exact hv1.1) u0
    have q1 : N0.1 30 = M0.1 30 := by rw [cpo d0 (n := 30) (by decide), h2 30 (by decide) (by decide) (by decide) (by decide)]
    have u1 : ∀ i, i < v → N0.1 10 i = g 10 i := fun i hi => by rw [cpo d0 (n := 10) (by decide)]; exact (h1 i hi).2.1
    have w1 := cp1 d1 (g := g 10) (by rw [q1]; exact hv1.2.1) u1
    have q2 : N1.1 31 = M0.1 31 := by rw [cpo d1 (n := 31) (by decide), cpo d0 (n := 31) (by decide), h2 31 (by decide) (by decide) (by decide) (by decide)]
    have u2 : ∀ i, i < v → N1.1 11 i = g 11 i := fun i hi => by rw [cpo d1 (n := 11) (by decide), cpo d0 (n := 11) (by decide)]; exact (h1 i hi).2.2.1
    have w2 := cp1 d2 (g := g 11) (by rw [q2]; exact hv1.2.2.1) u2
    have q3 : N2.1 32 = M0.1 32 := by rw [cpo d2 (n := 32) (by decide), cpo d1 (n := 32) (by decide), cpo d0 (n := 32) (by decide), h2 32 (by decide) (by decide) (by decide) (by decide)]
    have u3 : ∀ i, i < v → N2.1 12 i = g 12 i := fun i hi => by rw [cpo d2 (n := 12) (by decide), cpo d1 (n := 12) (by decide), cpo d0 (n := 12) (by decide)]; exact (h1 i hi).2.2.2
    have w3 := cp1 d3 (g := g 12) (by rw [q3]; exact hv1.2.2.2) u3
    refine ih (v + 1) N3 (by omega) (fun i hi => ⟨?_, ?_, ?_, ?_⟩) (fun n o0 o1 o2 o3 => ?_)
    · rw [cpo d3 (n := 9) (by decide), cpo d2 (n := 9) (by decide), cpo d1 (n := 9) (by decide)]; exact w0 i hi
    · rw [cpo d3 (n := 10) (by decide), cpo d2 (n := 10) (by decide)]; exact w1 i hi
    · rw [cpo d3 (n := 11) (by decide)]; exact w2 i hi
    · rw [show N3.1 12 i = N3.1 12 i from rfl]; exact w3 i hi
    · rw [cpo d3 o3, cpo d2 o2, cpo d1 o1, cpo d0 o0]; exact h2 n o0 o1 o2 o3
theorem lp_r5 {g : Nat → Nat → Int32} {M0 : Mm} {post : Int32 → Mm → Prop} (hs : ∀ i, i < 5 → M0.1 25 i = g 5 i ∧ M0.1 26 i = g 6 i ∧ M0.1 27 i = g 7 i ∧ M0.1 28 i = g 8 i) (hc : ∀ M1 : Mm, (∀ i, i < 5 → M1.1 5 i = g 5 i ∧ M1.1 6 i = g 6 i ∧ M1.1 7 i = g 7 i ∧ M1.1 8 i = g 8 i) → (∀ n, n ≠ 5 → n ≠ 6 → n ≠ 7 → n ≠ 8 → M1.1 n = M0.1 n) → ∃ n0 : Nat, w_X12_restore_126 post n0 (0 : Int32) M1) : ∀ m v M, v + m = 5 → (∀ i, i < v → M.1 5 i = g 5 i ∧ M.1 6 i = g 6 i ∧ M.1 7 i = g 7 i ∧ M.1 8 i = g 8 i) → (∀ n, n ≠ 5 → n ≠ 6 → n ≠ 7 → n ≠ 8 → M.1 n = M0.1 n) → w_X12_restore_65 post (m + 1) (nI v) M := by
  intro m
  induction m with
  | zero =>
    intro v M hv h1 h2
    obtain rfl : v = 5 := by omega
    exact pb_t (by decide) (hc M h1 h2)
  | succ m ih =>
    intro v M hv h1 h2
    refine pk_le 5 v (fun z => absurd z (by omega)) (fun _ => ⟨vp_i (by omega) (by decide), fun N0 d0 N1 d1 N2 d2 N3 d3 => ?_⟩)
    rw [cl_i (by omega)] at d0 d1 d2 d3
    rw [nI_1]
    have hv1 := hs v (by omega)
    have q0 : M.1 25 = M0.1 25 := by rw [h2 25 (by decide) (by decide) (by decide) (by decide)]
    have u0 : ∀ i, i < v → M.1 5 i = g 5 i := fun i hi => by rw [show M.1 5 i = M.1 5 i from rfl]; exact (h1 i hi).1
    have w0 := cp1 d0 (g := g 5) (by rw [q0]; exact hv1.1) u0
    have q1 : N0.1 26 = M0.1 26 := by rw [cpo d0 (n := 26) (by decide), h2 26 (by decide) (by decide) (by decide) (by decide)]
    have u1 : ∀ i, i < v → N0.1 6 i = g 6 i := fun i hi => by rw [cpo d0 (n := 6) (by decide)]; exact (h1 i hi).2.1
    have w1 := cp1 d1 (g := g 6) (by rw [q1]; exact hv1.2.1) u1
    have q2 : N1.1 27 = M0.1 27 := by rw [cpo d1 (n := 27) (by decide), cpo d0 (n := 27) (by decide), h2 27 (by decide) (by decide) (by decide) (by decide)]
    have u2 : ∀ i, i < v → N1.1 7 i = g 7 i := fun i hi => by rw [cpo d1 (n := 7) (by decide), cpo d0 (n := 7) (by decide)]; exact (h1 i hi).2.2.1
    have w2 := cp1 d2 (g := g 7) (by rw [q2]; exact hv1.2.2.1) u2
    have q3 : N2.1 28 = M0.1 28 := by rw [cpo d2 (n := 28) (by decide), cpo d1 (n := 28) (by decide), cpo d0 (n := 28) (by decide), h2 28 (by decide) (by decide) (by decide) (by decide)]
    have u3 : ∀ i, i < v → N2.1 8 i = g 8 i := fun i hi => by rw [cpo d2 (n := 8) (by decide), cpo d1 (n := 8) (by decide), cpo d0 (n := 8) (by decide)]; exact (h1 i hi).2.2.2
    have w3 := cp1 d3 (g := g 8) (by rw [q3]; exact hv1.2.2.2) u3
    refine ih (v + 1) N3 (by omega) (fun i hi => ⟨?_, ?_, ?_, ?_⟩) (fun n o0 o1 o2 o3 => ?_)
    · rw [cpo d3 (n := 5) (by decide), cpo d2 (n := 5) (by decide), cpo d1 (n := 5) (by decide)]; exact w0 i hi
    · rw [cpo d3 (n := 6) (by decide), cpo d2 (n := 6) (by decide)]; exact w1 i hi
    · rw [cpo d3 (n := 7) (by decide)]; exact w2 i hi
    · rw [show N3.1 8 i = N3.1 8 i from rfl]; exact w3 i hi
    · rw [cpo d3 o3, cpo d2 o2, cpo d1 o1, cpo d0 o0]; exact h2 n o0 o1 o2 o3
theorem lp_r7 {g : Nat → Nat → Int32} {M0 : Mm} {post : Int32 → Mm → Prop} (hs : ∀ i, i < 7 → M0.1 24 i = g 3 i) (hc : ∀ M1 : Mm, (∀ i, i < 7 → M1.1 3 i = g 3 i) → (∀ n, n ≠ 3 → M1.1 n = M0.1 n) → ∃ n0 : Nat, w_X12_restore_65 post n0 (0 : Int32) M1) : ∀ m v M, v + m = 7 → (∀ i, i < v → M.1 3 i = g 3 i) → (∀ n, n ≠ 3 → M.1 n = M0.1 n) → w_X12_restore_39 post (m + 1) (nI v) M := by
  intro m
  induction m with
  | zero =>
    intro v M hv h1 h2
    obtain rfl : v = 7 := by omega
    exact pb_t (by decide) (hc M h1 h2)
  | succ m ih =>
    intro v M hv h1 h2
    refine pk_le 7 v (fun z => absurd z (by omega)) (fun _ => ⟨vp_i (by omega) (by decide), fun N0 d0 => ?_⟩)
    rw [cl_i (by omega)] at d0
    rw [nI_1]
    have hv1 := hs v (by omega)
    have q0 : M.1 24 = M0.1 24 := by rw [h2 24 (by decide)]
    have u0 : ∀ i, i < v → M.1 3 i = g 3 i := fun i hi => by rw [show M.1 3 i = M.1 3 i from rfl]; exact (h1 i hi)
    have w0 := cp1 d0 (g := g 3) (by rw [q0]; exact hv1) u0
    refine ih (v + 1) N0 (by omega) (fun i hi => ?_) (fun n o0 => ?_)
    · rw [show N0.1 3 i = N0.1 3 i from rfl]; exact w0 i hi
    · rw [cpo d0 o0]; exact h2 n o0
def gI (f : Nat → Nat → Nat) (d i : Nat) : Int32 := if d = 24 then nI (f 2 i) else if d = 31 then nI (f 10 i) - 1 else nI (f (d - 21) i)
theorem gI_row {f : Nat → Nat → Nat} {d i : Nat} (h1 : 25 ≤ d) (h2 : d ≠ 31) : gI f d i = nI (f (d - 21) i) := by
  unfold gI
  rw [if_neg (by omega), if_neg h2]
theorem gI_24 {f : Nat → Nat → Nat} {i : Nat} : gI f 24 i = nI (f 2 i) := rfl
theorem gI_31 {f : Nat → Nat → Nat} {i : Nat} : gI f 31 i = nI (f 10 i) - 1 := rfl
theorem sX_there {b N : Nat} {M : Mm} {post : Int32 → Mm → Prop} (hN : M.1 b 1 = nI N) (h5 : N ≤ 5) (h1 : 0 < N → post 1 M) (h0 : N = 0 → post 0 M) : w_X2_isThere b M post := by
  unfold w_X2_isThere
  exact pk_le N 0 (fun z => h0 (by omega)) (fun z => h1 z) hN
theorem sim_image (k : Nat) (MX MM : Mm) (hk : k < 512) (hR : Rel k MX MM) : w_X11_image MX (fun r MX1 => w_X12_image MM (fun r1 MM1 => r = r1 ∧ Rel (k + 1) MX1 MM1)) := by
  have hR1 := hR.up
  obtain ⟨s, f, pn, pg, cr, cs, hX, hM, v, ⟨p1, p2, p3, p4⟩, ⟨c1, c2, c3, c4, c5, c6⟩, h6⟩ := hR
  have hs := v.1.2.2.1
  have hs0 := v.1.1
  unfold w_X11_image w_X12_image
  refine sX_there hX.rooms hs0 (fun t => pn_1 ?_) (fun t => pn_0 ?_)
  · refine sX_copy (Or.inr (by decide)) hX (fun M6 g6 o6 M8 e8 => ?_)
    have x0 : ∀ n, n ≠ 0 → M8.1 n = M6.1 n := fun n hn => cpo e8 hn
    have x3 : HX 3 M8 s f := hX.cg (fun n a b => (x0 n (by omega)).trans (o6 n (by omega)))
    have x22 : HX 22 M8 s f := g6.cg (fun n a b => x0 n (by omega))
    refine sX_sum (H3_people x3) hs (g := f 7) (fun i hi => H3_took x3 (by omega)) ?_
    rw [hM.people]
    refine re_ (s 2) 0 (fun z => ?_) (fun z => absurd z (by rcases v.2.1 with y | y <;> omega))
    intro N1 d1 N2 d2 N3 d3 N4 d4
    have y0 : ∀ n, n ≠ 0 → N4.1 n = MM.1 n := fun n hn => by rw [cpo d4 hn, cpo d3 hn, cpo d2 hn, cpo d1 hn]
    have y1 : ∀ j, j ≠ 35 → j ≠ 36 → j ≠ 37 → j ≠ 38 → N4.1 0 j = MM.1 0 j := fun j a b c d => by rw [d4, wI_same, pk_un d, d3, wI_same, pk_un c, d2, wI_same, pk_un b, d1, wI_same, pk_un a]
    have y35 : N4.1 0 35 = 1 := by rw [d4, wI_same, pk_un (by decide), d3, wI_same, pk_un (by decide), d2, wI_same, pk_un (by decide), d1, wI_same, pk_us]
    have y36 : N4.1 0 36 = nI cr := by rw [d4, wI_same, pk_un (by decide), d3, wI_same, pk_un (by decide), d2, wI_same, pk_us, d1, wI_same, pk_un (by decide), c2]
    have y37 : N4.1 0 37 = nI (s 3) := by rw [d4, wI_same, pk_un (by decide), d3, wI_same, pk_us, d2, wI_same, pk_un (by decide), d1, wI_same, pk_un (by decide), hM.together]
    have y38 : N4.1 0 38 = nI (s 4) := by rw [d4, wI_same, pk_us, d3, wI_same, pk_un (by decide), d2, wI_same, pk_un (by decide), d1, wI_same, pk_un (by decide), hM.seen]
    refine ⟨8, lp_i7 (g := gI f) (M0 := N4) (fun i hi => by rw [y0 3 (by decide), gI_24]; exact hM.len hi) (fun P1 a1 b1 => ?_) 7 0 N4 rfl (fun i hi => absurd hi (by omega)) (fun n _ => rfl)⟩
    refine ⟨6, lp_i5 (g := gI f) (M0 := P1) (fun i hi => ?_) (fun P2 a2 b2 => ?_) 5 0 P1 rfl (fun i hi => absurd hi (by omega)) (fun n _ _ _ _ => rfl)⟩
    · rw [b1 5 (by decide), b1 6 (by decide), b1 7 (by decide), b1 8 (by decide), y0 5 (by decide), y0 6 (by decide), y0 7 (by decide), y0 8 (by decide), gI_row (by decide) (by decide), gI_row (by decide) (by decide), gI_row (by decide) (by decide), gI_row (by decide) (by decide)]
      exact ⟨hM.deed hi, hM.lie hi, hM.place hi, hM.took hi⟩
    refine ⟨7, lp_i6 (g := gI f) (M0 := P2) (fun i hi => ?_) (fun P3 a3 b3 => ?_) 6 0 P2 rfl (fun i hi => absurd hi (by omega)) (fun n _ _ _ _ => rfl)⟩
    · have z9 : ∀ n, 9 ≤ n → n ≤ 12 → P2.1 n = MM.1 n := fun n h1 h2 => by rw [b2 n (by omega) (by omega) (by omega) (by omega), b1 n (by omega), y0 n (by omega)]
      rw [z9 9 (by decide) (by decide), z9 10 (by decide) (by decide), z9 11 (by decide) (by decide), z9 12 (by decide) (by decide), gI_31, gI_row (by decide) (by decide), gI_row (by decide) (by decide), gI_row (by decide) (by decide)]
      exact ⟨hM.sper hi, hM.spas hi, hM.swith hi, hM.sstep hi⟩
    have z0 : ∀ n, n < 24 → P3.1 n = N4.1 n := fun n h1 => by rw [b3 n (by omega) (by omega) (by omega) (by omega), b2 n (by omega) (by omega) (by omega) (by omega), b1 n (by omega)]
    have hM3 : HM P3 s f := hM.cg (fun j hj => by rw [z0 0 (by decide), y1 j (by omega) (by omega) (by omega) (by omega)]) (fun n h1 h2 => by rw [z0 n (by omega), y0 n (by omega)])
    refine sM_tookAll hM3.people hs (g := f 7) (fun i hi => hM3.took (by omega)) ⟨rfl, ?_⟩
    have w0 : ∀ j, j ≠ 6 → M8.1 0 j = MX.1 0 j := fun j hj => by rw [e8, wI_same, pk_un hj, o6 0 (by omega)]
    have w1 : M8.1 1 = MX.1 1 := (x0 1 (by decide)).trans (o6 1 (by omega))
    have w2 : M8.1 2 = MX.1 2 := (x0 2 (by decide)).trans (o6 2 (by omega))
    refine ⟨s, f, pn, pg, cr, cs, x3, hM3, v, ⟨by rw [w1]; exact p1, by rw [z0 0 (by decide), y1 19 (by decide) (by decide) (by decide) (by decide)]; exact p2, p3, fun i hi => by rw [w2, z0 13 (by decide), y0 13 (by decide)]; exact p4 i hi⟩, ⟨by rw [w0 7 (by decide)]; exact c1, by rw [z0 0 (by decide), y1 0 (by decide) (by decide) (by decide) (by decide)]; exact c2, by omega, by rw [w0 8 (by decide)]; exact c4, by rw [z0 0 (by decide), y1 13 (by decide) (by decide) (by decide) (by decide)]; exact c5, c6⟩, Or.inr ⟨?_, ?_, ?_, s, f, x22, ⟨⟨?_, ?_⟩, fun i hi => ?_, fun i hi => ?_, fun i hi => ?_⟩, v, ⟨rfl, rfl, rfl⟩, fun _ _ => ⟨rfl, rfl⟩, fun _ _ => rfl⟩⟩
    · rw [e8, wI_same, pk_us]
    · rw [z0 0 (by decide), y35]
    · rw [z0 0 (by decide), y36]
    · rw [z0 0 (by decide), y37]
    · rw [z0 0 (by decide), y38]
    · rw [b3 24 (by decide) (by decide) (by decide) (by decide), b2 24 (by decide) (by decide) (by decide) (by decide)]
      exact a1 i hi
    · rw [b3 25 (by decide) (by decide) (by decide) (by decide), b3 26 (by decide) (by decide) (by decide) (by decide), b3 27 (by decide) (by decide) (by decide) (by decide), b3 28 (by decide) (by decide) (by decide) (by decide)]
      exact a2 i hi
    · exact a3 i hi
  · rw [hM.people]
    refine re_ (s 2) 0 (fun z => ?_) (fun z => ⟨rfl, hR1⟩)
    rcases v.2.1 with y | y <;> omega
theorem sim_restore (k : Nat) (MX MM : Mm) (hk : k < 512) (hR : Rel k MX MM) : w_X11_restore MX (fun r MX1 => w_X12_restore MM (fun r1 MM1 => r = r1 ∧ Rel (k + 1) MX1 MM1)) := by
  have hR1 := hR.up
  obtain ⟨s, f, pn, pg, cr, cs, hX, hM, v, ⟨p1, p2, p3, p4⟩, ⟨c1, c2, c3, c4, c5, c6⟩, h6⟩ := hR
  unfold w_X11_restore w_X12_restore
  rcases h6 with ⟨g1, g2⟩ | ⟨g1, g2, g3, s2, f2, g4, g5, g6, g7, g8, g9⟩
  · refine pn_t g1 ?_
    rcases g2 with g2 | ⟨g2, e, he, g3⟩
    · exact pb_t g2 ⟨rfl, hR1⟩
    · refine pb_f (by rw [g2]; decide) (pb_f ?_ ⟨rfl, hR1⟩)
      rw [g3, c2]
      exact fun z => absurd ((nI_eq (by omega) (by omega)).mp z) (by omega)
  · refine pn_f (by rw [g1]; decide) ?_
    refine sX_copy (Or.inl (by decide)) g4 (fun M3 x3 o3 => ?_)
    have hs2 := g6.1.2.2.1
    refine sX_sum (H3_people x3) hs2 (g := f2 7) (fun i hi => H3_took x3 (by omega)) ?_
    refine pb_f (by rw [g2]; decide) (pb_t (by rw [g3, c2]) ?_)
    intro N1 d1 N2 d2
    obtain ⟨k1, k2, k3, k4⟩ := g5
    have y0 : ∀ n, n ≠ 0 → N2.1 n = MM.1 n := fun n hn => by rw [cpo d2 hn, cpo d1 hn]
    have y1 : ∀ j, j ≠ 12 → j ≠ 14 → N2.1 0 j = MM.1 0 j := fun j a b => by rw [d2, wI_same, pk_un b, d1, wI_same, pk_un a]
    have y12 : N2.1 0 12 = nI (s2 3) := by rw [d2, wI_same, pk_un (by decide), d1, wI_same, pk_us, k1.1]
    have y14 : N2.1 0 14 = nI (s2 4) := by rw [d2, wI_same, pk_us, d1, wI_same, pk_un (by decide), k1.2]
    refine ⟨8, lp_r7 (g := fun _ i => nI (f2 2 i)) (M0 := N2) (fun i hi => by rw [y0 24 (by decide)]; exact k2 i hi) (fun P1 a1 b1 => ?_) 7 0 N2 rfl (fun i hi => absurd hi (by omega)) (fun n _ => rfl)⟩
    refine ⟨6, lp_r5 (g := fun d i => nI (f2 (d - 1) i)) (M0 := P1) (fun i hi => ?_) (fun P2 a2 b2 => ?_) 5 0 P1 rfl (fun i hi => absurd hi (by omega)) (fun n _ _ _ _ => rfl)⟩
    · rw [b1 25 (by decide), b1 26 (by decide), b1 27 (by decide), b1 28 (by decide), y0 25 (by decide), y0 26 (by decide), y0 27 (by decide), y0 28 (by decide)]
      exact k3 i hi
    refine ⟨7, lp_r6 (g := fun d i => enc (d - 1) (f2 (d - 1) i)) (M0 := P2) (fun i hi => ?_) (fun P3 a3 b3 => ?_) 6 0 P2 rfl (fun i hi => absurd hi (by omega)) (fun n _ _ _ _ => rfl)⟩
    · have z9 : ∀ n, 29 ≤ n → n ≤ 32 → P2.1 n = MM.1 n := fun n h1 h2 => by rw [b2 n (by omega) (by omega) (by omega) (by omega), b1 n (by omega), y0 n (by omega)]
      rw [z9 29 (by decide) (by decide), z9 30 (by decide) (by decide), z9 31 (by decide) (by decide), z9 32 (by decide) (by decide)]
      exact k4 i hi
    have z0 : ∀ n, n ≠ 3 → n ≠ 5 → n ≠ 6 → n ≠ 7 → n ≠ 8 → n ≠ 9 → n ≠ 10 → n ≠ 11 → n ≠ 12 → P3.1 n = N2.1 n := fun n h1 h2 h3 h4 h5 h6 h7 h8 h9 => by rw [b3 n h6 h7 h8 h9, b2 n h2 h3 h4 h5, b1 n h1]
    have z00 : P3.1 0 = N2.1 0 := z0 0 (by decide) (by decide) (by decide) (by decide) (by decide) (by decide) (by decide) (by decide) (by decide)
    have hM3 : HM P3 s2 f2 := by
      refine ⟨fun j hj => ?_, fun j i hj hi => ?_⟩
      · show P3.1 0 (slM j) = nI (s2 j)
        rw [z00]
        rcases pk5 hj with rfl | rfl | rfl | rfl | rfl
        · rw [g7.1]; exact (y1 1 (by decide) (by decide)).trans hM.rooms
        · rw [g7.2.1]; exact (y1 2 (by decide) (by decide)).trans hM.passages
        · rw [g7.2.2]; exact (y1 3 (by decide) (by decide)).trans hM.people
        · exact y12
        · exact y14
      · show P3.1 (1 + j) i = enc j (f2 j i)
        rcases (show j = 0 ∨ j = 1 ∨ j = 2 ∨ j = 3 ∨ j = 4 ∨ j = 5 ∨ j = 6 ∨ j = 7 ∨ j = 8 ∨ j = 9 ∨ j = 10 ∨ j = 11 by omega) with rfl | rfl | rfl | rfl | rfl | rfl | rfl | rfl | rfl | rfl | rfl | rfl
        · rw [(g8 i hi).1]
          exact (congrFun ((z0 1 (by decide) (by decide) (by decide) (by decide) (by decide) (by decide) (by decide) (by decide) (by decide)).trans (y0 1 (by decide))) i).trans (hM.one hi)
        · rw [(g8 i hi).2]
          exact (congrFun ((z0 2 (by decide) (by decide) (by decide) (by decide) (by decide) (by decide) (by decide) (by decide) (by decide)).trans (y0 2 (by decide))) i).trans (hM.other hi)
        · exact (congrFun ((b3 3 (by decide) (by decide) (by decide) (by decide)).trans (b2 3 (by decide) (by decide) (by decide) (by decide))) i).trans (a1 i hi)
        · rw [g9 i hi]
          exact (congrFun ((z0 4 (by decide) (by decide) (by decide) (by decide) (by decide) (by decide) (by decide) (by decide) (by decide)).trans (y0 4 (by decide))) i).trans (hM.kind hi)
        · exact (congrFun (b3 5 (by decide) (by decide) (by decide) (by decide)) i).trans (a2 i hi).1
        · exact (congrFun (b3 6 (by decide) (by decide) (by decide) (by decide)) i).trans (a2 i hi).2.1
        · exact (congrFun (b3 7 (by decide) (by decide) (by decide) (by decide)) i).trans (a2 i hi).2.2.1
        · exact (congrFun (b3 8 (by decide) (by decide) (by decide) (by decide)) i).trans (a2 i hi).2.2.2
        · exact (a3 i hi).1
        · exact (a3 i hi).2.1
        · exact (a3 i hi).2.2.1
        · exact (a3 i hi).2.2.2
    refine sM_tookAll hM3.people hs2 (g := f2 7) (fun i hi => hM3.took (by omega)) ⟨rfl, ?_⟩
    have zr : ∀ n, 13 ≤ n → P3.1 n = MM.1 n := fun n hn => (z0 n (by omega) (by omega) (by omega) (by omega) (by omega) (by omega) (by omega) (by omega) (by omega)).trans (y0 n (by omega))
    have zs : ∀ j, j ≠ 12 → j ≠ 14 → P3.1 0 j = MM.1 0 j := fun j a b => by rw [z00, y1 j a b]
    refine ⟨s2, f2, pn, pg, cr, cs, x3, hM3, g6, ⟨by rw [o3 1 (by omega)]; exact p1, by rw [zs 19 (by decide) (by decide)]; exact p2, p3, fun i hi => by rw [o3 2 (by omega), zr 13 (by decide)]; exact p4 i hi⟩, ⟨by rw [o3 0 (by omega)]; exact c1, by rw [zs 0 (by decide) (by decide)]; exact c2, by omega, by rw [o3 0 (by omega)]; exact c4, by rw [zs 13 (by decide) (by decide)]; exact c5, c6⟩, Or.inr ⟨by rw [o3 0 (by omega)]; exact g1, by rw [zs 35 (by decide) (by decide)]; exact g2, by rw [zs 36 (by decide) (by decide)]; exact g3, s2, f2, g4.cg (fun n a b => o3 n (by omega)), ⟨⟨by rw [zs 37 (by decide) (by decide)]; exact k1.1, by rw [zs 38 (by decide) (by decide)]; exact k1.2⟩, fun i hi => by rw [zr 24 (by decide)]; exact k2 i hi, fun i hi => by rw [zr 25 (by decide), zr 26 (by decide), zr 27 (by decide), zr 28 (by decide)]; exact k3 i hi, fun i hi => by rw [zr 29 (by decide), zr 30 (by decide), zr 31 (by decide), zr 32 (by decide)]; exact k4 i hi⟩, g6, ⟨rfl, rfl, rfl⟩, fun _ _ => ⟨rfl, rfl⟩, fun _ _ => rfl⟩⟩
