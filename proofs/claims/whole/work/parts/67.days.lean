/-! ===== doors; days by a seed ===== -/
def dF (f : Nat → Nat → Nat) (r : Nat) : Nat → Nat → Nat
  | 0, _ => 0
  | m + 1, v => (if f 0 v = r ∨ f 1 v = r then 1 else 0) + dF f r m (v + 1)
theorem dF_le (f : Nat → Nat → Nat) (r m : Nat) : ∀ v, dF f r m v ≤ m := by
  induction m with
  | zero => intro v; exact Nat.le_refl _
  | succ m ih =>
    intro v
    show (if f 0 v = r ∨ f 1 v = r then 1 else 0) + dF f r m (v + 1) ≤ m + 1
    have := ih (v + 1)
    split <;> omega
theorem sX_doors {b r : Nat} {M : Mm} {s : Nat → Nat} {f : Nat → Nat → Nat} {T : Nat} {post : Int32 → Mm → Prop} (hX : HX b M s f) (hV : Vt T s f) (hr : r < 2 ^ 31) (h : post (nI (dF f r (s 1) 0)) M) : w_X2_doorsOf b (nI r) M post := by
  have hs1 := hV.1.2.1
  have key : ∀ m v acc, v + m = s 1 → post (nI (acc + dF f r m v)) M → w_X2_doorsOf_4 b post (m + 1) (nI r) (nI acc) (nI v) M := by
    intro m
    induction m with
    | zero =>
      intro v acc hv g
      exact pk_le (s 1) v (fun _ => g) (fun z => absurd z (by omega)) hX.passages
    | succ m ih =>
      intro v acc hv g
      have g2 : post (nI (acc + ((if f 0 v = r ∨ f 1 v = r then 1 else 0) + dF f r m (v + 1)))) M := g
      refine pk_le (s 1) v (fun z => absurd z (by omega)) (fun _ => sX_endsAt hX hV (by omega) hr (fun z => pb_1 ?_) (fun z => pb_0 ?_)) hX.passages
      · unfold ea at z
        rw [if_pos z] at g2
        rw [nI_1, nI_1]
        refine ih (v + 1) (acc + 1) (by omega) ?_
        rw [Nat.add_assoc]
        exact g2
      · unfold ea at z
        rw [if_neg z, Nat.zero_add] at g2
        rw [nI_1]
        exact ih (v + 1) acc (by omega) g2
  exact ⟨s 1 + 1, key (s 1) 0 0 (by omega) (by rw [Nat.zero_add]; exact h)⟩
theorem sM_doors {r : Nat} {M : Mm} {s : Nat → Nat} {f : Nat → Nat → Nat} {T : Nat} {post : Int32 → Mm → Prop} (hM : HM M s f) (hV : Vt T s f) (hr : r < 2 ^ 31) (h : post (nI (dF f r (s 1) 0)) M) : w_X12_ending (nI r) M post := by
  have hs1 := hV.1.2.1
  have key : ∀ m v acc, v + m = s 1 → post (nI (acc + dF f r m v)) M → w_X12_ending_4 post (m + 1) (nI r) (nI acc) (nI v) M := by
    intro m
    induction m with
    | zero =>
      intro v acc hv g
      exact pk_le (s 1) v (fun _ => g) (fun z => absurd z (by omega)) hM.passages
    | succ m ih =>
      intro v acc hv g
      have g2 : post (nI (acc + ((if f 0 v = r ∨ f 1 v = r then 1 else 0) + dF f r m (v + 1)))) M := g
      refine pk_le (s 1) v (fun z => absurd z (by omega)) (fun _ => sM_endsAt hM hV (by omega) hr (fun z => pb_1 ?_) (fun z => pb_0 ?_)) hM.passages
      · unfold ea at z
        rw [if_pos z] at g2
        rw [nI_1, nI_1]
        refine ih (v + 1) (acc + 1) (by omega) ?_
        rw [Nat.add_assoc]
        exact g2
      · unfold ea at z
        rw [if_neg z, Nat.zero_add] at g2
        rw [← nI_0, nI_add, nI_1]
        exact ih (v + 1) (acc + 0) (by omega) g2
  exact ⟨s 1 + 1, key (s 1) 0 0 (by omega) (by rw [Nat.zero_add]; exact h)⟩
def nthd (f : Nat → Nat → Nat) (r : Nat) : Nat → Nat → Nat → Int32
  | 0, _, _ => -1
  | m + 1, v, l => if f 0 v = r ∨ f 1 v = r then (if l = 0 then nI v else nthd f r m (v + 1) (l - 1)) else nthd f r m (v + 1) l
theorem nthd_in (f : Nat → Nat → Nat) (r m : Nat) : ∀ v l, l < dF f r m v → ∃ p, v ≤ p ∧ p < v + m ∧ nthd f r m v l = nI p ∧ (f 0 p = r ∨ f 1 p = r) := by
  induction m with
  | zero => intro v l h; exact absurd h (by show ¬ l < 0; omega)
  | succ m ih =>
    intro v l h
    have h' : l < (if f 0 v = r ∨ f 1 v = r then 1 else 0) + dF f r m (v + 1) := h
    by_cases z : f 0 v = r ∨ f 1 v = r
    · rw [if_pos z] at h'
      by_cases y : l = 0
      · refine ⟨v, Nat.le_refl _, by omega, ?_, z⟩
        show (if f 0 v = r ∨ f 1 v = r then (if l = 0 then nI v else nthd f r m (v + 1) (l - 1)) else nthd f r m (v + 1) l) = nI v
        rw [if_pos z, if_pos y]
      · obtain ⟨p, h1, h2, h3, h4⟩ := ih (v + 1) (l - 1) (by omega)
        refine ⟨p, by omega, by omega, ?_, h4⟩
        show (if f 0 v = r ∨ f 1 v = r then (if l = 0 then nI v else nthd f r m (v + 1) (l - 1)) else nthd f r m (v + 1) l) = nI p
        rw [if_pos z, if_neg y]
        exact h3
    · rw [if_neg z] at h'
      obtain ⟨p, h1, h2, h3, h4⟩ := ih (v + 1) l (by omega)
      refine ⟨p, by omega, by omega, ?_, h4⟩
      show (if f 0 v = r ∨ f 1 v = r then (if l = 0 then nI v else nthd f r m (v + 1) (l - 1)) else nthd f r m (v + 1) l) = nI p
      rw [if_neg z]
      exact h3
theorem sX_door {b r l : Nat} {M : Mm} {s : Nat → Nat} {f : Nat → Nat → Nat} {T : Nat} {post : Int32 → Mm → Prop} (hX : HX b M s f) (hV : Vt T s f) (hr : r < 2 ^ 31) (hl : l < 100) (h : post (nthd f r (s 1) 0 l) M) : w_X2_doorOf b (nI r) (nI l) M post := by
  have hs1 := hV.1.2.1
  have key : ∀ m v l, l < 100 → v + m = s 1 → post (nthd f r m v l) M → w_X2_doorOf_5 b post (m + 1) (nI r) (nI l) (nI v) M := by
    intro m
    induction m with
    | zero =>
      intro v l hl hv g
      exact pk_le (s 1) v (fun _ => g) (fun z => absurd z (by omega)) hX.passages
    | succ m ih =>
      intro v l hl hv g
      have g2 : post (if f 0 v = r ∨ f 1 v = r then (if l = 0 then nI v else nthd f r m (v + 1) (l - 1)) else nthd f r m (v + 1) l) M := g
      refine pk_le (s 1) v (fun z => absurd z (by omega)) (fun _ => sX_endsAt hX hV (by omega) hr (fun z => pb_1 ?_) (fun z => pb_0 ?_)) hX.passages
      · unfold ea at z
        rw [if_pos z] at g2
        refine re_ l 0 (fun y => ?_) (fun y => ?_)
        · rw [if_neg y] at g2
          obtain ⟨l', rfl⟩ : ∃ l', l = l' + 1 := ⟨l - 1, by omega⟩
          rw [pk_m1, nI_1]
          exact ih (v + 1) l' (by omega) (by omega) g2
        · rw [if_pos y] at g2
          exact g2
      · unfold ea at z
        rw [if_neg z] at g2
        rw [nI_1]
        exact ih (v + 1) l hl (by omega) g2
  exact ⟨s 1 + 1, key (s 1) 0 l hl (by omega) h⟩
theorem sM_door {r l : Nat} {M : Mm} {s : Nat → Nat} {f : Nat → Nat → Nat} {T : Nat} {post : Int32 → Mm → Prop} (hM : HM M s f) (hV : Vt T s f) (hr : r < 2 ^ 31) (hl : l < dF f r (s 1) 0) (h : post (nthd f r (s 1) 0 l) M) : w_X12_passageAt (nI r) (nI l) M post := by
  have hs1 := hV.1.2.1
  have dl := dF_le f r (s 1) 0
  have key : ∀ m v l, l < 100 → l < dF f r m v → v + m = s 1 → post (nthd f r m v l) M → w_X12_passageAt_5 post (m + 1) (nI r) (nI l) (nI v) M := by
    intro m
    induction m with
    | zero =>
      intro v l hl hd hv g
      exact absurd hd (by show ¬ l < 0; omega)
    | succ m ih =>
      intro v l hl hd hv g
      have hd' : l < (if f 0 v = r ∨ f 1 v = r then 1 else 0) + dF f r m (v + 1) := hd
      have g2 : post (if f 0 v = r ∨ f 1 v = r then (if l = 0 then nI v else nthd f r m (v + 1) (l - 1)) else nthd f r m (v + 1) l) M := g
      show w_X12_endsAt (nI v) (nI r) M (fun r5 M6 => ((r5 = 0) → (w_X12_passageAt_19 post (w_X12_passageAt_5 post (m + 1)) (nI r) (nI l) (nI v) M6)) ∧ ((¬ r5 = 0) → (((nI l ≤ 0) → (post (nI v) M6)) ∧ ((¬ nI l ≤ 0) → (w_X12_passageAt_19 post (w_X12_passageAt_5 post (m + 1)) (nI r) (nI l) (nI v) M6)))))
      refine sM_endsAt hM hV (by omega) hr (fun z => pb_1 ?_) (fun z => pb_0 ?_)
      · have z' : f 0 v = r ∨ f 1 v = r := z
        rw [if_pos z'] at g2 hd'
        refine pk_le l 0 (fun y => ?_) (fun y => ?_)
        · rw [if_pos (by omega)] at g2
          exact g2
        · rw [if_neg (by omega)] at g2
          unfold w_X12_passageAt_19
          refine sM_endsAt hM hV (by omega) hr (fun _ => pb_1 ?_) (fun q => absurd z q)
          obtain ⟨l', rfl⟩ : ∃ l', l = l' + 1 := ⟨l - 1, by omega⟩
          rw [nI_pred, nI_1]
          exact ih (v + 1) l' (by omega) (by omega) (by omega) g2
      · have z' : ¬ (f 0 v = r ∨ f 1 v = r) := z
        rw [if_neg z'] at g2 hd'
        unfold w_X12_passageAt_19
        refine sM_endsAt hM hV (by omega) hr (fun q => absurd q z) (fun _ => pb_0 ?_)
        rw [Int32.sub_zero, nI_1]
        exact ih (v + 1) l hl (by omega) (by omega) g2
  exact ⟨s 1 + 1, key (s 1) 0 l (by omega) hl (by omega) h⟩
def sd (x : Nat) : Nat := (1103515245 * x + 12345) % 2147483648
def dwv (x n : Nat) : Nat := (x / 65536) % n
theorem sd_lt (x : Nat) : sd x < 2 ^ 31 := Nat.mod_lt _ (by decide)
theorem l_and {n : Nat} (h : n < 2 ^ 63) : lN n &&& (2147483647 : Int64) = lN (n % 2147483648) := by
  apply Int64.toBitVec_inj.mp
  apply BitVec.eq_of_toNat_eq
  have hm : (2147483647 : Int64).toBitVec.toNat = 2 ^ 31 - 1 := by decide
  rw [Int64.toBitVec_and, BitVec.toNat_and, hm, Nat.and_two_pow_sub_one_eq_mod]
  show (BitVec.ofNat 64 n).toNat % 2 ^ 31 = (BitVec.ofNat 64 (n % 2147483648)).toNat
  rw [BitVec.toNat_ofNat, BitVec.toNat_ofNat]
  omega
theorem sd_l {x : Nat} (h : x < 2 ^ 31) : ((1103515245 : Int64) * lN x + (12345 : Int64)) &&& (2147483647 : Int64) = lN (sd x) := by
  have e1 : (1103515245 : Int64) = lN 1103515245 := rfl
  have e2 : (12345 : Int64) = lN 12345 := rfl
  rw [e1, e2, lN_mul, lN_add, l_and (by omega)]
  rfl
theorem sX_draw {x n : Nat} {M : Mm} {post : Int32 → Mm → Prop} (hx : x < 2 ^ 31) (e : M.1 80 7 = nI x) (h0 : 0 < n) (hn : n < 2 ^ 31) (h : ∀ M1 : Mm, M1 = wI M 80 (upd (M.1 80) 7 (nI (sd x))) → post (nI (dwv (sd x) n)) M1) : w_X8_draw (nI n) M post := by
  have sl := sd_lt x
  unfold w_X8_draw
  intro M1 e1
  rw [e, nI_l hx, sd_l hx, lN_i] at e1
  have e7 : M1.1 80 7 = nI (sd x) := by rw [e1, wI_same, pk_us]
  refine pb_f (nI_nle h0 hn) ⟨nI_ne0 h0 hn, ?_⟩
  have e6 : (65536 : Int32) = nI 65536 := rfl
  rw [e7, e6, pk_div sl (by decide) (by decide), pk_rem (by omega) h0 hn]
  exact h M1 e1
theorem sM_draw {x n : Nat} {M : Mm} {post : Int32 → Mm → Prop} (hx : x < 2 ^ 31) (e : M.2 0 32 = lN x) (h0 : 0 < n) (hn : n < 2 ^ 31) (h : ∀ M1 : Mm, M1 = wJ M 0 (vp_updL (M.2 0) 32 (lN (sd x))) → post (nI (dwv (sd x) n)) M1) : w_X12_draw (nI n) M post := by
  have sl := sd_lt x
  unfold w_X12_draw
  intro M1 e1
  rw [e, sd_l hx] at e1
  have e7 : M1.2 0 32 = lN (sd x) := by rw [e1, wJ_same, pk_uLs]
  have e6 : (65536 : Int64) = lN 65536 := rfl
  rw [e7, e6, nI_l hn, pk_lDiv (by omega) (by decide) (by decide), pk_lRem (by omega) h0 (by omega), lN_i]
  refine ⟨fun q => ?_, h M1 e1⟩
  have := (pk_lEQ (b := 0) (by omega) (by decide)).mp q
  omega
abbrev Ds : Type := Nat × (Nat → Nat → Nat) × Nat
def lieS (i x : Nat) (f : Nat → Nat → Nat) (t : Nat) : Ds := if dwv (sd x) 4 = 0 ∧ f 5 i < 9 then (sd x, upf f 5 i (f 5 i + 1), t) else (sd x, f, t)
def dayS (s : Nat → Nat) (c : Ds) : Ds := if dF c.2.1 (c.2.1 6 (dwv (sd c.1) (s 2))) (s 1) 0 = 0 then lieS (dwv (sd c.1) (s 2)) (sd c.1) c.2.1 c.2.2 else lieS (dwv (sd c.1) (s 2)) (sd (sd c.1)) (upf c.2.1 6 (dwv (sd c.1) (s 2)) (ac c.2.1 (nthd c.2.1 (c.2.1 6 (dwv (sd c.1) (s 2))) (s 1) 0 (dwv (sd (sd c.1)) (dF c.2.1 (c.2.1 6 (dwv (sd c.1) (s 2))) (s 1) 0))).toNatClampNeg (c.2.1 6 (dwv (sd c.1) (s 2))))) (c.2.2 + tl c.2.1 (dwv (sd c.1) (s 2)) (nthd c.2.1 (c.2.1 6 (dwv (sd c.1) (s 2))) (s 1) 0 (dwv (sd (sd c.1)) (dF c.2.1 (c.2.1 6 (dwv (sd c.1) (s 2))) (s 1) 0))).toNatClampNeg)
def dayN (s : Nat → Nat) : Nat → Ds → Ds
  | 0, c => c
  | n + 1, c => dayN s n (dayS s c)
def DX (s : Nat → Nat) (c : Ds) (M : Mm) : Prop := ∃ (h : Nat → Nat → Nat) (T : Nat), HX 41 M s h ∧ Vt T s h ∧ (∀ j, j ≠ 7 → h j = c.2.1 j) ∧ M.1 80 7 = nI c.1 ∧ M.1 80 6 = nI c.2.2 ∧ c.1 < 2 ^ 31
theorem tl_h {h f : Nat → Nat → Nat} (e : ∀ j, j ≠ 7 → h j = f j) (i p : Nat) : tl h i p = tl f i p := by
  unfold tl stp
  rw [e 3 (by decide), e 2 (by decide), e 4 (by decide), e 5 (by decide)]
theorem dF_h {h f : Nat → Nat → Nat} (e : ∀ j, j ≠ 7 → h j = f j) (r m : Nat) : ∀ v, dF h r m v = dF f r m v := by
  induction m with
  | zero => intro v; rfl
  | succ m ih =>
    intro v
    show (if h 0 v = r ∨ h 1 v = r then 1 else 0) + dF h r m (v + 1) = (if f 0 v = r ∨ f 1 v = r then 1 else 0) + dF f r m (v + 1)
    rw [e 0 (by decide), e 1 (by decide), ih (v + 1)]
theorem nthd_h {h f : Nat → Nat → Nat} (e : ∀ j, j ≠ 7 → h j = f j) (r m : Nat) : ∀ v l, nthd h r m v l = nthd f r m v l := by
  induction m with
  | zero => intro v l; rfl
  | succ m ih =>
    intro v l
    show (if h 0 v = r ∨ h 1 v = r then (if l = 0 then nI v else nthd h r m (v + 1) (l - 1)) else nthd h r m (v + 1) l) = (if f 0 v = r ∨ f 1 v = r then (if l = 0 then nI v else nthd f r m (v + 1) (l - 1)) else nthd f r m (v + 1) l)
    rw [e 0 (by decide), e 1 (by decide), ih (v + 1) (l - 1), ih (v + 1) l]
theorem upf_row {f h : Nat → Nat → Nat} {j i v : Nat} (e : ∀ k, k ≠ 7 → h k = f k) : ∀ k, k ≠ 7 → upf h j i v k = upf f j i v k := by
  intro k hk
  funext a
  unfold upf
  rw [e k hk]
theorem sX_lie {s : Nat → Nat} {i x t : Nat} {f : Nat → Nat → Nat} {M : Mm} {post : Mm → Prop} (hi : i < s 2) (hS : DX s (x, f, t) M) (h : ∀ M1 : Mm, (∀ n, n < 41 → M1.1 n = M.1 n) → DX s (lieS i x f t) M1 → post M1) : w_X8_dreamOfOne_76 post (nI i) M := by
  obtain ⟨g, T, hX, hV, eg, e7, e6, hx⟩ := hS
  have hs := hV.1.2.2.1
  have vi := hV.2.2.2.1 i hi
  have e7' : M.1 80 7 = nI x := e7
  have eg' : ∀ j, j ≠ 7 → g j = f j := eg
  have g5 : g 5 i = f 5 i := by rw [eg' 5 (by decide)]
  unfold w_X8_dreamOfOne_76
  refine sX_draw (n := 4) hx e7' (by decide) (by decide) (fun M2 e2 => ?_)
  have o2 : ∀ n, n ≠ 80 → M2.1 n = M.1 n := fun n hn => cpo e2 hn
  have X2 : HX 41 M2 s g := hX.cg (fun n a b => o2 n (by omega))
  have s7 : M2.1 80 7 = nI (sd x) := by rw [e2, wI_same, pk_us]
  have s6 : M2.1 80 6 = nI t := by rw [e2, wI_same, pk_un (by decide)]; exact e6
  have d4 : dwv (sd x) 4 < 4 := Nat.mod_lt _ (by decide)
  have keep : ¬ (dwv (sd x) 4 = 0 ∧ f 5 i < 9) → post M2 := by
    intro q
    refine h M2 (fun n hn => o2 n (by omega)) ?_
    unfold lieS
    rw [if_neg q]
    exact ⟨g, T, X2, hV, eg', s7, s6, sd_lt x⟩
  refine re_ (dwv (sd x) 4) 0 (fun z => keep (fun q => z q.1)) (fun z => ⟨vp_i (by omega) (by decide), ?_⟩)
  have l2 : M2.1 53 i = nI (g 5 i) := X2.lie (by omega)
  rw [cl_i (by omega), l2]
  refine pk_le 9 (g 5 i) (fun y => keep (fun q => by omega)) (fun y M7 e7 => ?_)
  rw [nI_1] at e7
  have X7 := X2.wr 5 i (g 5 i + 1) e7
  refine h M7 (fun n hn => by rw [cpo e7 (by omega), o2 n (by omega)]) ?_
  unfold lieS
  rw [if_pos ⟨z, by omega⟩]
  refine ⟨upf g 5 i (g 5 i + 1), T, X7, hV.lies (by omega), ?_, by rw [cpo e7 (by decide)]; exact s7, by rw [cpo e7 (by decide)]; exact s6, sd_lt x⟩
  show ∀ j, j ≠ 7 → upf g 5 i (g 5 i + 1) j = upf f 5 i (f 5 i + 1) j
  rw [g5]
  exact upf_row eg'
theorem sX_day {s : Nat → Nat} {c : Ds} {M : Mm} {post : Mm → Prop} (hP : 1 ≤ s 2) (hS : DX s c M) (h : ∀ M1 : Mm, (∀ n, n < 41 → M1.1 n = M.1 n) → DX s (dayS s c) M1 → post M1) : w_X8_dreamOfOne M post := by
  obtain ⟨x, f, t⟩ := c
  obtain ⟨g, T, hX, hV, eg, e7, e6, hx⟩ := hS
  have hs := hV.1.2.2.1
  have hs0 := hV.1.1
  have e7' : M.1 80 7 = nI x := e7
  have eg' : ∀ j, j ≠ 7 → g j = f j := eg
  have hp : M.1 41 3 = nI (s 2) := hX.people
  have ed : dayS s (x, f, t) = if dF f (f 6 (dwv (sd x) (s 2))) (s 1) 0 = 0 then lieS (dwv (sd x) (s 2)) (sd x) f t else lieS (dwv (sd x) (s 2)) (sd (sd x)) (upf f 6 (dwv (sd x) (s 2)) (ac f (nthd f (f 6 (dwv (sd x) (s 2))) (s 1) 0 (dwv (sd (sd x)) (dF f (f 6 (dwv (sd x) (s 2))) (s 1) 0))).toNatClampNeg (f 6 (dwv (sd x) (s 2))))) (t + tl f (dwv (sd x) (s 2)) (nthd f (f 6 (dwv (sd x) (s 2))) (s 1) 0 (dwv (sd (sd x)) (dF f (f 6 (dwv (sd x) (s 2))) (s 1) 0))).toNatClampNeg) := rfl
  rw [ed] at h
  unfold w_X8_dreamOfOne
  rw [hp]
  refine sX_draw hx e7' (by omega) (by omega) (fun M10 e10 => ?_)
  have di : dwv (sd x) (s 2) < s 2 := Nat.mod_lt _ (by omega)
  generalize dwv (sd x) (s 2) = i at h di ⊢
  have vi := hV.2.2.2.1 i di
  have o10 : ∀ n, n ≠ 80 → M10.1 n = M.1 n := fun n hn => cpo e10 hn
  have X10 : HX 41 M10 s g := hX.cg (fun n a b => o10 n (by omega))
  have s7 : M10.1 80 7 = nI (sd x) := by rw [e10, wI_same, pk_us]
  have s6 : M10.1 80 6 = nI t := by rw [e10, wI_same, pk_un (by decide)]; exact e6
  have g6 : g 6 i = f 6 i := by rw [eg' 6 (by decide)]
  have pl : M10.1 54 i = nI (g 6 i) := X10.place (by omega)
  refine ⟨vp_i (by omega) (by decide), ?_⟩
  rw [cl_i (by omega), pl]
  refine sX_doors X10 hV (by omega) ?_
  have dl := dF_le g (g 6 i) (s 1) 0
  have dh := dF_h eg' (g 6 i) (s 1) 0
  have hs1 := hV.1.2.1
  refine pk_le (dF g (g 6 i) (s 1) 0) 0 (fun z => ?_) (fun z => ?_)
  · refine sX_lie (x := sd x) (f := f) (t := t) di ⟨g, T, X10, hV, eg', s7, s6, sd_lt x⟩ (fun M1 o1 h1 => h M1 (fun n hn => by rw [o1 n hn, o10 n (by omega)]) ?_)
    rw [if_pos (by rw [← g6, ← dh]; omega)]
    exact h1
  · rw [if_neg (by rw [← g6, ← dh]; omega)] at h
    refine sX_draw (sd_lt x) s7 (by omega) (by omega) (fun M18 e18 => ?_)
    have o18 : ∀ n, n ≠ 80 → M18.1 n = M10.1 n := fun n hn => cpo e18 hn
    have X18 : HX 41 M18 s g := X10.cg (fun n a b => o18 n (by omega))
    have t7 : M18.1 80 7 = nI (sd (sd x)) := by rw [e18, wI_same, pk_us]
    have t6 : M18.1 80 6 = nI t := by rw [e18, wI_same, pk_un (by decide)]; exact s6
    have dw : dwv (sd (sd x)) (dF g (g 6 i) (s 1) 0) < dF g (g 6 i) (s 1) 0 := Nat.mod_lt _ (by omega)
    refine sX_door X18 hV (by omega) (by omega) ?_
    obtain ⟨p, p1, p2, p3, p4⟩ := nthd_in g (g 6 i) (s 1) 0 _ dw
    have p3' := p3
    rw [nthd_h eg' (g 6 i) (s 1) 0, g6, dF_h eg' (f 6 i) (s 1) 0] at p3'
    rw [p3', cl_i (by omega)] at h
    rw [p3]
    refine pb_f (ne_m1 (by omega)) (sX_walk0 (Or.inr (Or.inr rfl)) X18 hV di (by omega) (fun M25 X25 o25 M27 e27 => ?_))
    have st := stp_le hV di (show p < s 1 by omega) (Nat.zero_le _) (li := g 5 i) (by omega)
    have a6 := ac_lt hV (show p < s 1 by omega) (g 6 i)
    have et : tl g i p = tl f i p := tl_h eg' i p
    have o27 : ∀ n, n ≠ 80 → M27.1 n = M25.1 n := fun n hn => cpo e27 hn
    have X27 := X25.cg (fun n a b => o27 n (by omega))
    have hv27 : Vt (T + 108) s (wk1 g i (ac g p (g 6 i)) (stp g i p 0 (g 5 i))) := hV.wk a6 (by omega) (by omega)
    refine sX_lie (x := sd (sd x)) (f := upf f 6 i (ac f p (f 6 i))) (t := t + tl f i p) di ⟨_, T + 108, X27, hv27, ?_, ?_, ?_, sd_lt _⟩ (fun M1 o1 h1 => h M1 (fun n hn => by rw [o1 n hn, o27 n (by omega), o25 n (by omega), o18 n (by omega), o10 n (by omega)]) h1)
    · show ∀ j, j ≠ 7 → wk1 g i (ac g p (g 6 i)) (stp g i p 0 (g 5 i)) j = upf f 6 i (ac f p (f 6 i)) j
      intro j hj
      have ea' : ac g p (g 6 i) = ac f p (f 6 i) := by unfold ac; rw [eg' 0 (by decide), eg' 1 (by decide), g6]
      funext q
      unfold wk1
      rw [upf_n (fun w => hj w.1), ea']
      exact congrFun (upf_row eg' j hj) q
    · rw [e27, wI_same, pk_un (by decide), o25 80 (by omega)]
      exact t7
    · rw [e27, wI_same, pk_us, t6, nI_add]
      show nI (t + tl g i p) = nI (t + tl f i p)
      rw [et]
theorem sX_dream {s : Nat → Nat} {f : Nat → Nat → Nat} {T N x : Nat} {M : Mm} {post : Mm → Prop} (hX : HX 3 M s f) (hV : Vt T s f) (hP : 1 ≤ s 2) (hN : N ≤ 60) (hx : x < 2 ^ 31) (h : ∀ M1 : Mm, (∀ n, n < 41 → M1.1 n = M.1 n) → DX s (dayN s N (x, f, 0)) M1 → post M1) : w_X8_dream (nI N) (nI x) M post := by
  unfold w_X8_dream
  refine sX_copy (Or.inr (by decide)) hX (fun M6 X6 o6 M8 e8 M10 e10 => ⟨N + 1, ?_⟩)
  have key : ∀ m v (c : Ds) (M1 : Mm), v + m = N → (∀ n, n < 41 → M1.1 n = M.1 n) → DX s c M1 → (∀ M2 : Mm, (∀ n, n < 41 → M2.1 n = M.1 n) → DX s (dayN s m c) M2 → post M2) → w_X8_dream_21 post (m + 1) (nI N) (nI v) M1 := by
    intro m
    induction m with
    | zero =>
      intro v c M1 hv o1 h1 g
      exact pk_le N v (fun _ => g M1 o1 h1) (fun z => absurd z (by omega))
    | succ m ih =>
      intro v c M1 hv o1 h1 g
      refine pk_le N v (fun z => absurd z (by omega)) (fun _ => sX_day hP h1 (fun M3 o3 h3 => ?_))
      rw [nI_1]
      exact ih (v + 1) (dayS s c) M3 (by omega) (fun n hn => by rw [o3 n hn, o1 n hn]) h3 g
  have o10 : ∀ n, n ≠ 80 → M10.1 n = M6.1 n := fun n hn => by rw [cpo e10 hn, cpo e8 hn]
  refine key N 0 (x, f, 0) M10 (by omega) (fun n hn => by rw [o10 n (by omega), o6 n (by omega)]) ⟨f, T, X6.cg (fun n a b => o10 n (by omega)), hV, fun _ _ => rfl, ?_, ?_, hx⟩ h
  · rw [e10, wI_same, pk_un (by decide), e8, wI_same, pk_us]
  · rw [e10, wI_same, pk_us]
    rfl
