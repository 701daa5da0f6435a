/-! ===== days: the reference's side, and both ===== -/
def DM (s : Nat → Nat) (M0 : Mm) (c : Ds) (M : Mm) : Prop := (∃ T, Vt T s c.2.1) ∧ HM M s c.2.1 ∧ M.2 0 32 = lN c.1 ∧ c.1 < 2 ^ 31 ∧ (∀ n, n ≠ 6 → n ≠ 7 → M.1 n = M0.1 n) ∧ ∀ j, 5 ≤ j → M.1 6 j = M0.1 6 j ∧ M.1 7 j = M0.1 7 j
theorem HM.wj {M M1 : Mm} {s : Nat → Nat} {f : Nat → Nat → Nat} (h : HM M s f) (e : M1.1 = M.1) : HM M1 s f := h.cg (fun k _ => by rw [e]) (fun n _ _ => by rw [e])
theorem Vt.place {T : Nat} {s : Nat → Nat} {f : Nat → Nat → Nat} (v : Vt T s f) {i g : Nat} (hg : g < s 0) : Vt T s (upf f 6 i g) := by
  refine ⟨v.1, v.2.1, fun p hp => ?_, fun a ha => ?_, fun a ha => ?_⟩
  · rw [upf_n (by omega), upf_n (by omega), upf_n (by omega)]
    exact v.2.2.1 p hp
  · have va := v.2.2.2.1 a ha
    have e6 : upf f 6 i g 6 a < s 0 := by
      by_cases z : a = i
      · rw [z, upf_s]; exact hg
      · rw [upf_n (by omega)]; omega
    refine ⟨by rw [upf_n (by omega)]; omega, by rw [upf_n (by omega)]; omega, by rw [upf_n (by omega)]; omega, e6, by rw [upf_n (by omega)]; omega⟩
  · rw [upf_n (by omega), upf_n (by omega), upf_n (by omega), upf_n (by omega)]
    exact v.2.2.2.2 a ha
theorem sM_lie {s : Nat → Nat} {i x t : Nat} {f : Nat → Nat → Nat} {M0 M : Mm} {post : Int32 → Mm → Prop} {k55 : Int32 → Int32 → Int32 → Int32 → Mm → Prop} {v1 v3 v4 v5 : Int32} (hi : i < s 2) (hS : DM s M0 (x, f, t) M) (h : ∀ M1 : Mm, DM s M0 (lieS i x f t) M1 → k55 v1 v3 v4 (v5 + 1) M1) : w_X12_daysNow_141 post k55 v1 v3 v4 v5 (nI i) M := by
  obtain ⟨⟨T, hV⟩, hM, e32, hx, oM, o5⟩ := hS
  have hV : Vt T s f := hV
  have hM : HM M s f := hM
  have hs := hV.1.2.2.1
  have vi := hV.2.2.2.1 i hi
  unfold w_X12_daysNow_141
  refine ⟨vp_i (by omega) (by decide), sM_draw (n := 4) hx e32 (by decide) (by decide) (fun M6 e6 => ?_)⟩
  have f6 : M6.1 = M.1 := by rw [e6]; rfl
  have s32 : M6.2 0 32 = lN (sd x) := by rw [e6, wJ_same, pk_uLs]
  have hM6 := hM.wj f6
  have keep : ¬ (dwv (sd x) 4 = 0 ∧ f 5 i < 9) → w_X12_daysNow_173 post k55 v1 v3 v4 v5 (nI i) (M.1 6 (nI i).toNatClampNeg) M6 := by
    intro q
    unfold w_X12_daysNow_173
    refine ⟨vp_i (by omega) (by decide), fun M2 e2 => h M2 ?_⟩
    rw [cl_i (by omega)] at e2
    have z0 : M.1 6 i + (0 : Int32) = M.1 6 i := Int32.add_zero _
    rw [z0] at e2
    have r6 : M2.1 6 = M.1 6 := by
      rw [e2, wI_same, f6]
      funext j
      by_cases w : j = i
      · rw [w, pk_us]
      · rw [pk_un w]
    have all : M2.1 = M.1 := by
      funext n
      by_cases w : n = 6
      · rw [w]; exact r6
      · rw [cpo e2 w, f6]
    unfold lieS
    rw [if_neg q]
    refine ⟨⟨T, hV⟩, hM.wj all, ?_, sd_lt x, fun n h1 h2 => by rw [all]; exact oM n h1 h2, fun j hj => by rw [all]; exact o5 j hj⟩
    show M2.2 0 32 = lN (sd x)
    rw [e2]
    exact s32
  have d4 : dwv (sd x) 4 < 4 := Nat.mod_lt _ (by decide)
  refine re_ (dwv (sd x) 4) 0 (fun z => keep (fun q => z q.1)) (fun z => ?_)
  have l6 : M6.1 6 i = nI (f 5 i) := hM6.lie (by omega)
  rw [cl_i (by omega)] at keep ⊢
  rw [l6]
  refine pk_le 9 (f 5 i) (fun y => keep (fun q => by omega)) (fun y M10 e10 => h M10 ?_)
  rw [hM.lie (show i < 5 by omega), nI_1] at e10
  have hM10 := hM6.wr 5 i (f 5 i + 1) e10
  unfold lieS
  rw [if_pos ⟨z, by omega⟩]
  refine ⟨⟨T, hV.lies (by omega)⟩, hM10, ?_, sd_lt x, fun n h1 h2 => by rw [cpo e10 h1, f6]; exact oM n h1 h2, fun j hj => ?_⟩
  · show M10.2 0 32 = lN (sd x)
    rw [e10]
    exact s32
  · refine ⟨?_, ?_⟩
    · rw [e10, wI_same, pk_un (by omega), f6]
      exact (o5 j hj).1
    · rw [cpo e10 (by decide), f6]
      exact (o5 j hj).2
theorem sM_day {s : Nat → Nat} {c : Ds} {M0 M : Mm} {post : Int32 → Mm → Prop} {v1 v3 : Int32} {m v N : Nat} (hP : 1 ≤ s 2) (hN : v1 = nI N) (hN60 : N ≤ 60) (hv : v < N) (hS : DM s M0 c M) (h : ∀ M1 : Mm, DM s M0 (dayS s c) M1 → w_X12_daysNow_55 post m v1 v3 (nI (dayS s c).2.2) (nI v + 1) M1) : w_X12_daysNow_55 post (m + 1) v1 v3 (nI c.2.2) (nI v) M := by
  obtain ⟨x, f, t⟩ := c
  obtain ⟨⟨T, hV⟩, hM, e32, hx, oM, o5⟩ := hS
  have hV : Vt T s f := hV
  have hM : HM M s f := hM
  have hs := hV.1.2.2.1
  have hs0 := hV.1.1
  have hs1 := hV.1.2.1
  have ed : dayS s (x, f, t) = if dF f (f 6 (dwv (sd x) (s 2))) (s 1) 0 = 0 then lieS (dwv (sd x) (s 2)) (sd x) f t else lieS (dwv (sd x) (s 2)) (sd (sd x)) (upf f 6 (dwv (sd x) (s 2)) (ac f (nthd f (f 6 (dwv (sd x) (s 2))) (s 1) 0 (dwv (sd (sd x)) (dF f (f 6 (dwv (sd x) (s 2))) (s 1) 0))).toNatClampNeg (f 6 (dwv (sd x) (s 2))))) (t + tl f (dwv (sd x) (s 2)) (nthd f (f 6 (dwv (sd x) (s 2))) (s 1) 0 (dwv (sd (sd x)) (dF f (f 6 (dwv (sd x) (s 2))) (s 1) 0))).toNatClampNeg) := rfl
  rw [ed] at h
  have lt : ∀ i x f t, (lieS i x f t).2.2 = t := by
    intro i x f t
    unfold lieS
    split <;> rfl
  refine pk_le N v (fun z => absurd z (by omega)) (fun _ => ?_) hN
  rw [hM.people]
  refine sM_draw hx e32 (by omega) (by omega) (fun M25 e25 => ?_)
  have di : dwv (sd x) (s 2) < s 2 := Nat.mod_lt _ (by omega)
  generalize dwv (sd x) (s 2) = i at h di ⊢
  have vi := hV.2.2.2.1 i di
  have f25 : M25.1 = M.1 := by rw [e25]; rfl
  have s32 : M25.2 0 32 = lN (sd x) := by rw [e25, wJ_same, pk_uLs]
  have hM25 := hM.wj f25
  refine ⟨vp_i (by omega) (by decide), ?_⟩
  rw [cl_i (show i < 2 ^ 31 by omega), hM25.place (by omega)]
  refine sM_doors hM25 hV (by omega) ?_
  have dl := dF_le f (f 6 i) (s 1) 0
  refine pk_le (dF f (f 6 i) (s 1) 0) 0 (fun z => ?_) (fun z => ?_)
  · rw [if_pos (by omega), lt] at h
    exact sM_lie (x := sd x) (f := f) (t := t) di ⟨⟨T, hV⟩, hM25, s32, sd_lt x, fun n h1 h2 => by rw [f25]; exact oM n h1 h2, fun j hj => by rw [f25]; exact o5 j hj⟩ h
  · rw [if_neg (by omega), lt] at h
    refine sM_draw (sd_lt x) s32 (by omega) (by omega) (fun M33 e33 => ?_)
    have f33 : M33.1 = M.1 := by rw [e33]; exact f25
    have t32 : M33.2 0 32 = lN (sd (sd x)) := by rw [e33, wJ_same, pk_uLs]
    have hM33 := hM.wj f33
    have dw : dwv (sd (sd x)) (dF f (f 6 i) (s 1) 0) < dF f (f 6 i) (s 1) 0 := Nat.mod_lt _ (by omega)
    rw [hM25.place (by omega)]
    refine sM_door hM33 hV (by omega) dw ?_
    obtain ⟨p, p1, p2, p3, p4⟩ := nthd_in f (f 6 i) (s 1) 0 _ dw
    rw [p3, cl_i (by omega)] at h
    rw [p3]
    have vp := hV.2.2.1 p (by omega)
    have a6 := ac_lt hV (show p < s 1 by omega) (f 6 i)
    refine sM_alone hM33 hV di (by omega) (f 5 i) (hM33.lie (by omega)) (by omega) ?_
    rw [hM33.place (by omega)]
    refine sM_bey (by omega) (hM33.one (by omega)) (hM33.other (by omega)) (by omega) (by omega) (fun M44 e44 => ?_)
    have hM44 := hM33.wr 6 i (ac f p (f 6 i)) e44
    rw [nI_add]
    refine sM_lie (x := sd (sd x)) (f := upf f 6 i (ac f p (f 6 i))) (t := t + tl f i p) di ⟨⟨T, hV.place a6⟩, hM44, ?_, sd_lt _, fun n h1 h2 => by rw [cpo e44 h2, f33]; exact oM n h1 h2, fun j hj => ⟨?_, ?_⟩⟩ h
    · show M44.2 0 32 = lN (sd (sd x))
      rw [e44]
      exact t32
    · rw [cpo e44 (by decide), f33]
      exact (o5 j hj).1
    · rw [e44, wI_same, pk_un (by omega), f33]
      exact (o5 j hj).2
theorem sM_daysNow {s : Nat → Nat} {f : Nat → Nat → Nat} {T N x w : Nat} {M : Mm} {post : Int32 → Mm → Prop} (hM : HM M s f) (hV : Vt T s f) (hP : 1 ≤ s 2) (hN : N ≤ 60) (hx : x < 2 ^ 31) (hw : w ≤ 2) (h : ∀ M1 : Mm, coM M M1 → post (if w = 0 then nI (dayN s N (x, f, 0)).2.2 else if w = 1 then nI (sumF (is0 ((dayN s N (x, f, 0)).2.1 6)) 0 (s 2)) else nI (dayN s N (x, f, 0)).1) M1) : w_X12_daysNow (nI N) (nI x) (nI w) M post := by
  have hs := hV.1.2.2.1
  have hs0 := hV.1.1
  -- the last rows: what was is put back
  have L192 : ∀ (M0 : Mm) (c : Ds) (r : Int32), (∀ n, n ≠ 6 → n ≠ 7 → n ≠ 22 → n ≠ 23 → M0.1 n = M.1 n) → (∀ j, 5 ≤ j → M0.1 6 j = M.1 6 j ∧ M0.1 7 j = M.1 7 j) → (∀ j, j < 5 → M0.1 22 j = M.1 6 j ∧ M0.1 23 j = M.1 7 j) → (∀ M1 : Mm, coM M M1 → post (if w = 0 then nI c.2.2 else if w = 1 then r else nI c.1) M1) → ∀ m v (M1 : Mm), v + m = 5 → (∀ n, n ≠ 6 → n ≠ 7 → M1.1 n = M0.1 n) → (∀ j, 5 ≤ j → M1.1 6 j = M0.1 6 j ∧ M1.1 7 j = M0.1 7 j) → (∀ j, j < v → M1.1 6 j = M.1 6 j ∧ M1.1 7 j = M.1 7 j) → M1.2 0 32 = lN c.1 → w_X12_daysNow_192 post (m + 1) (nI w) (nI c.2.2) r (nI v) M1 := by
    intro M0 c r h1 h2 h3 hp m
    induction m with
    | zero =>
      intro v M1 hv k1 k2 k3 k4
      obtain rfl : v = 5 := by omega
      have row : ∀ n, n = 6 ∨ n = 7 → M1.1 n = M.1 n := by
        intro n hn
        funext j
        by_cases y : j < 5
        · rcases hn with hn | hn
          · rw [hn]; exact (k3 j y).1
          · rw [hn]; exact (k3 j y).2
        · rcases hn with hn | hn
          · rw [hn, (k2 j (by omega)).1, (h2 j (by omega)).1]
          · rw [hn, (k2 j (by omega)).2, (h2 j (by omega)).2]
      have all : ∀ n, n ≠ 22 → n ≠ 23 → M1.1 n = M.1 n := by
        intro n n1 n2
        by_cases y : n = 6 ∨ n = 7
        · exact row n y
        · rw [k1 n (by omega) (by omega), h1 n (by omega) (by omega) n1 n2]
      have co : coM M M1 := ⟨fun j _ _ _ => by rw [all 0 (by decide) (by decide)], fun n hn => all n (by omega) (by omega)⟩
      have g := hp M1 co
      refine pb_t (by decide) (re_ w 0 (fun y => re_ w 1 (fun y2 => ?_) (fun y2 => ?_)) (fun y => ?_))
      · rw [if_neg y, if_neg y2] at g
        rw [k4, lN_i]
        exact g
      · rw [if_neg y, if_pos y2] at g
        exact g
      · rw [if_pos y] at g
        exact g
    | succ m ih =>
      intro v M1 hv k1 k2 k3 k4
      refine pk_le 5 v (fun z => absurd z (by omega)) (fun _ => ⟨vp_i (by omega) (by decide), fun M16 e16 M18 e18 => ?_⟩)
      rw [cl_i (by omega)] at e16 e18
      rw [k1 22 (by decide) (by decide), (h3 v (by omega)).1] at e16
      rw [cpo e16 (show 23 ≠ 6 by decide), k1 23 (by decide) (by decide), (h3 v (by omega)).2] at e18
      rw [nI_1]
      refine ih (v + 1) M18 (by omega) (fun n n1 n2 => by rw [cpo e18 n2, cpo e16 n1, k1 n n1 n2]) (fun j hj => ⟨?_, ?_⟩) (fun j hj => ⟨?_, ?_⟩) ?_
      · rw [cpo e18 (by decide), e16, wI_same, pk_un (by omega)]; exact (k2 j hj).1
      · rw [e18, wI_same, pk_un (by omega), cpo e16 (by decide)]; exact (k2 j hj).2
      · rw [cpo e18 (by decide), e16, wI_same]
        by_cases y : j = v
        · rw [y, pk_us]
        · rw [pk_un y]; exact (k3 j (by omega)).1
      · rw [e18, wI_same]
        by_cases y : j = v
        · rw [y, pk_us]
        · rw [pk_un y, cpo e16 (by decide)]; exact (k3 j (by omega)).2
      · rw [e18, e16]
        exact k4
  have L55 : ∀ (M0 : Mm), (∀ n, n ≠ 6 → n ≠ 7 → n ≠ 22 → n ≠ 23 → M0.1 n = M.1 n) → (∀ j, 5 ≤ j → M0.1 6 j = M.1 6 j ∧ M0.1 7 j = M.1 7 j) → (∀ j, j < 5 → M0.1 22 j = M.1 6 j ∧ M0.1 23 j = M.1 7 j) → ∀ m v (c : Ds) (M1 : Mm), v + m = N → DM s M0 c M1 → dayN s m c = dayN s N (x, f, 0) → w_X12_daysNow_55 post (m + 1) (nI N) (nI w) (nI c.2.2) (nI v) M1 := by
    intro M0 h1 h2 h3 m
    induction m with
    | zero =>
      intro v c M1 hv hS hd
      have hd' : c = dayN s N (x, f, 0) := hd
      obtain ⟨⟨T1, hV1⟩, hM1, e32, hx1, oM, o5⟩ := hS
      refine pk_le N v (fun _ => ?_) (fun z => absurd z (by omega))
      refine sM_zero hM1.people hs (g := c.2.1 6) (fun i hi => ⟨hM1.place (by omega), ?_⟩) ⟨6, ?_⟩
      · have := hV1.2.2.2.1 i hi
        omega
      · refine L192 M0 c _ h1 h2 h3 (fun M2 co => ?_) 5 0 M1 rfl oM o5 (fun j hj => absurd hj (by omega)) e32
        rw [hd']
        exact h M2 co
    | succ m ih =>
      intro v c M1 hv hS hd
      refine sM_day hP rfl hN (by omega) hS (fun M2 hS2 => ?_)
      rw [nI_1]
      exact ih (v + 1) (dayS s c) M2 (by omega) hS2 hd
  have L3 : ∀ m v (M1 : Mm), v + m = 5 → (∀ n, n ≠ 22 → n ≠ 23 → M1.1 n = M.1 n) → (∀ j, j < v → M1.1 22 j = M.1 6 j ∧ M1.1 23 j = M.1 7 j) → w_X12_daysNow_3 post (m + 1) (nI N) (nI x) (nI w) (nI v) M1 := by
    intro m
    induction m with
    | zero =>
      intro v M1 hv k1 k2
      obtain rfl : v = 5 := by omega
      refine pb_t (by decide) (fun M47 e47 => ⟨N + 1, ?_⟩)
      have f47 : M47.1 = M1.1 := by rw [e47]; rfl
      rw [nI_l hx] at e47
      refine L55 M1 (fun n _ _ a b => k1 n a b) (fun j hj => by rw [k1 6 (by decide) (by decide), k1 7 (by decide) (by decide)]; exact ⟨rfl, rfl⟩) k2 N 0 (x, f, 0) M47 (by omega) ⟨⟨T, hV⟩, ?_, ?_, hx, fun n _ _ => by rw [f47], fun j _ => by rw [f47]; exact ⟨rfl, rfl⟩⟩ rfl
      · exact hM.cg (fun j _ => by rw [f47, k1 0 (by decide) (by decide)]) (fun n a b => by rw [f47, k1 n (by omega) (by omega)])
      · show M47.2 0 32 = lN x
        rw [e47, wJ_same, pk_uLs]
    | succ m ih =>
      intro v M1 hv k1 k2
      refine pk_le 5 v (fun z => absurd z (by omega)) (fun _ => ⟨vp_i (by omega) (by decide), fun M50 e50 M52 e52 => ?_⟩)
      rw [cl_i (by omega)] at e50 e52
      rw [k1 6 (by decide) (by decide)] at e50
      rw [cpo e50 (show 7 ≠ 22 by decide), k1 7 (by decide) (by decide)] at e52
      rw [nI_1]
      refine ih (v + 1) M52 (by omega) (fun n a b => by rw [cpo e52 b, cpo e50 a, k1 n a b]) (fun j hj => ⟨?_, ?_⟩)
      · rw [cpo e52 (by decide), e50, wI_same]
        by_cases y : j = v
        · rw [y, pk_us]
        · rw [pk_un y]; exact (k2 j (by omega)).1
      · rw [e52, wI_same]
        by_cases y : j = v
        · rw [y, pk_us]
        · rw [pk_un y, cpo e50 (by decide)]; exact (k2 j (by omega)).2
  exact ⟨6, L3 5 0 M rfl (fun _ _ _ => rfl) (fun j hj => absurd hj (by omega))⟩
theorem sim_days (k : Nat) (MX MM : Mm) (x1 x2 x3 : Int32) (hk : k < 512) (hR : Rel k MX MM) : w_X11_days x1 x2 x3 MX (fun r MX1 => w_X12_days x1 x2 x3 MM (fun r1 MM1 => r = r1 ∧ Rel (k + 1) MX1 MM1)) := by
  have hR1 := hR.up
  obtain ⟨s, f, hX, hM, v, hR⟩ := hR.el
  have hs := v.1.2.2.1
  have hs0 := v.1.1
  unfold w_X11_days w_X12_days
  refine ⟨fun q => sM_within (fun z _ => absurd q z) (fun _ => pb_0 ⟨rfl, hR1⟩), fun q => ⟨fun q2 => sM_within (fun _ z => absurd q2 z) (fun _ => pb_0 ⟨rfl, hR1⟩), fun q2 => ?_⟩⟩
  have W1 : ∀ (A B : Mm → Prop), B MM → w_X12_within x1 1 60 MM (fun r1 M2 => (r1 = 0 → A M2) ∧ (¬ r1 = 0 → B M2)) := by
    intro A B hB
    refine sM_within (fun _ _ => pb_1 hB) (fun z => ?_)
    rcases z with z | z
    · exact absurd z q
    · exact absurd z q2
  refine ⟨fun q3 => W1 _ _ (pb_t q3 ⟨rfl, hR1⟩), fun q3 => ⟨fun q4 => W1 _ _ (pb_f q3 (sM_within (fun z _ => absurd q4 z) (fun _ => pn_0 ⟨rfl, hR1⟩))), fun q4 => ⟨fun q5 => ?_, fun q5 => W1 _ _ (pb_f q3 (sM_within (fun _ z => absurd (le_nlt.mpr z) q5) (fun _ => pn_0 ⟨rfl, hR1⟩)))⟩⟩⟩
  obtain ⟨N, N1, N2, rfl⟩ := inR (lo := 1) (hi := 60) (by decide) q (le_nlt.mpr q2) (by decide)
  obtain ⟨x, hx, rfl⟩ := nI_of q3
  obtain ⟨w, -, w2, rfl⟩ := inR (lo := 0) (hi := 2) (by decide) q4 q5 (by decide)
  have W2 : ∀ (A B : Mm → Prop), B MM → w_X12_within (nI w) 0 2 MM (fun r1 M2 => (¬ r1 = 0 → B M2) ∧ (r1 = 0 → A M2)) := by
    intro A B hB
    refine sM_within (fun _ _ => pn_1 hB) (fun z => ?_)
    rcases z with z | z
    · exact absurd z q4
    · exact absurd z (le_nlt.mp q5)
  refine sX_there hX.rooms hs0 (fun t => pn_1 ?_) (fun t => pn_0 ?_)
  · have P1 : 1 ≤ s 2 := by rcases v.2.1 with y | y <;> omega
    refine sX_dream hX v P1 N2 hx (fun M11 o11 hS => ?_)
    have fin : ∀ r : Int32, r = (if w = 0 then nI (dayN s N (x, f, 0)).2.2 else if w = 1 then nI (sumF (is0 ((dayN s N (x, f, 0)).2.1 6)) 0 (s 2)) else nI (dayN s N (x, f, 0)).1) → w_X12_within (nI N) 1 60 MM (fun r1 M2 => ((r1 = 0) → r = -102 ∧ Rel (k + 1) M11 M2) ∧ ((¬ r1 = 0) → (((nI x < 0) → r = -102 ∧ Rel (k + 1) M11 M2) ∧ ((¬ nI x < 0) → (w_X12_within (nI w) 0 2 M2 (fun r6 M7 => ((¬ r6 = 0) → (((¬ (M7.1 0 3) = 0) → (w_X12_daysNow (nI N) (nI x) (nI w) M7 (fun r11 M12 => r = r11 ∧ Rel (k + 1) M11 M12))) ∧ (((M7.1 0 3) = 0) → r = -103 ∧ Rel (k + 1) M11 M7))) ∧ ((r6 = 0) → r = -102 ∧ Rel (k + 1) M11 M7))))))) := by
      intro r hr
      refine W1 _ _ (pb_f q3 (W2 _ _ ?_))
      rw [hM.people]
      refine pn_f (nI_ne0 (by omega) (by omega)) (sM_daysNow hM v P1 N2 hx w2 (fun M12 co => ⟨hr, hR1.fr o11 co⟩))
    obtain ⟨g, T, X41, hv, eg, e7, e6, hx1⟩ := hS
    refine ⟨fun y => ?_, fun y => ⟨fun y2 => ?_, fun y2 => ?_⟩⟩
    · have y' : w = 0 := (nI_eq (b := 0) (by omega) (by decide)).mp y
      refine fin _ ?_
      rw [if_pos y']
      exact e6
    · have y' : w = 1 := (nI_eq (b := 1) (by omega) (by decide)).mp y2
      unfold w_X8_dreamtInRoomZero
      refine sX_zero X41.people hs (g := (dayN s N (x, f, 0)).2.1 6) (fun i hi => ?_) (fin _ ?_)
      · have vi := hv.2.2.2.1 i hi
        have e := X41.place (show i < 5 by omega)
        rw [eg 6 (by decide)] at e vi
        exact ⟨e, by omega⟩
      · rw [if_neg (by omega), if_pos y']
    · have n0 : w ≠ 0 := fun z => y (by rw [z]; rfl)
      have n1 : w ≠ 1 := fun z => y2 (by rw [z]; rfl)
      refine fin _ ?_
      rw [if_neg n0, if_neg n1]
      exact e7
  · refine W1 _ _ (pb_f q3 (W2 _ _ ?_))
    rw [hM.people, show s 2 = 0 by rcases v.2.1 with y | y <;> omega]
    exact pn_t rfl ⟨rfl, hR1⟩
