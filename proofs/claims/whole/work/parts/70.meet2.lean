/-! ===== meet: the reference's side, and both ===== -/
def eqJ (M M1 : Mm) : Prop := M1.1 = M.1 ∧ M1.2 0 = M.2 0
theorem eqJ.w {M M0 M1 : Mm} {n : Nat} {F : Nat → Int64} (h : eqJ M M0) (hn : n ≠ 0) (e : M1 = wJ M0 n F) : eqJ M M1 := ⟨by rw [e]; exact h.1, by rw [jpo e (Ne.symm hn)]; exact h.2⟩
theorem eqJ.tr {M M1 M2 : Mm} (h : eqJ M M1) (g : eqJ M1 M2) : eqJ M M2 := ⟨g.1.trans h.1, g.2.trans h.2⟩
theorem sM_turn {s : Nat → Nat} {f : Nat → Nat → Nat} {T o : Nat} {ch : Nat → Nat} {M : Mm} {post : Mm → Prop} (ho : o ≤ 5) (hM : HM M s f) (hV : Vt T s f) (hc : ∀ q, q < s 0 → M.2 20 (o + q) = lN (ch q)) (h : ∀ M1 : Mm, eqJ M M1 → (∀ q, q < o ∨ o + s 0 ≤ q → M1.2 20 q = M.2 20 q) → (∀ q, q < s 0 → M1.2 20 (o + q) = lN (tn s f ch q)) → post M1) : w_X12_turn (nI o) M post := by
  have hs0 := hV.1.1
  have hs1 := hV.1.2.1
  have L134 : ∀ m v (M1 : Mm), v + m = s 0 → eqJ M M1 → (∀ q, q < o ∨ o + s 0 ≤ q → M1.2 20 q = M.2 20 q) → (∀ q, q < s 0 → M1.2 21 q = lN (tn s f ch q)) → (∀ q, q < v → M1.2 20 (o + q) = lN (tn s f ch q)) → w_X12_turn_134 post (m + 1) (nI o) (nI v) M1 := by
    intro m
    induction m with
    | zero =>
      intro v M1 hv k0 k1 k2 k3
      obtain rfl : v = s 0 := by omega
      exact pk_le (s 0) (s 0) (fun _ => h M1 k0 k1 k3) (fun z => absurd z (by omega)) (hM.wj k0.1).rooms
    | succ m ih =>
      intro v M1 hv k0 k1 k2 k3
      refine pk_le (s 0) v (fun z => absurd z (by omega)) (fun _ => ⟨vp_i (by omega) (by decide), ?_⟩) (hM.wj k0.1).rooms
      rw [nI_add]
      refine ⟨vp_i (by omega) (by decide), fun M17 e17 => ?_⟩
      rw [cl_i (by omega), cl_i (by omega), k2 v (by omega)] at e17
      rw [nI_1]
      refine ih (v + 1) M17 (by omega) (k0.w (by decide) e17) (fun q hq => by rw [e17, wJ_same, pk_uLn (by omega)]; exact k1 q hq) (fun q hq => by rw [jpo e17 (by decide)]; exact k2 q hq) (fun q hq => ?_)
      rw [e17, wJ_same]
      by_cases w : q = v
      · rw [w, pk_uLs]
      · rw [pk_uLn (by omega)]
        exact k3 q (by omega)
  have L71 : ∀ (k25 : Int32 → Int32 → Mm → Prop) (r : Nat) (hr : r < s 0) (D : Nat) (hD : D = dF f r (s 1) 0), ∀ m v (d : Nat → Nat) (M1 : Mm), v + m = s 1 → eqJ M M1 → M1.2 20 = M.2 20 → (∀ q, q < s 0 → M1.2 21 q = lN (d q)) → (dF f r m v ≠ 0 → D ≠ 0) → (∀ M2 : Mm, eqJ M M2 → M2.2 20 = M.2 20 → (∀ q, q < s 0 → M2.2 21 q = lN (shP f r (ch r * (420 / D)) m v d q)) → k25 (nI o) (nI r + 1) M2) → w_X12_turn_71 post k25 (m + 1) (nI o) (nI r) (nI D) (nI v) M1 := by
    intro k25 r hr D hD m
    induction m with
    | zero =>
      intro v d M1 hv k0 k1 k2 k3 g
      exact pk_le (s 1) v (fun _ => g M1 k0 k1 k2) (fun z => absurd z (by omega)) (hM.wj k0.1).passages
    | succ m ih =>
      intro v d M1 hv k0 k1 k2 k3 g
      have hM1 := hM.wj k0.1
      have g2 : ∀ M2 : Mm, eqJ M M2 → M2.2 20 = M.2 20 → (∀ q, q < s 0 → M2.2 21 q = lN (shP f r (ch r * (420 / D)) m (v + 1) (if f 0 v = r ∨ f 1 v = r then ad d (ac f v r) (ch r * (420 / D)) else d) q)) → k25 (nI o) (nI r + 1) M2 := g
      have k3' : (if f 0 v = r ∨ f 1 v = r then 1 else 0) + dF f r m (v + 1) ≠ 0 → D ≠ 0 := k3
      have a1 := ac_lt hV (show v < s 1 by omega) r
      have vv := hV.2.2.1 v (by omega)
      have Dl : D ≤ 7 := by have := dF_le f r (s 1) 0; omega
      refine pk_le (s 1) v (fun y => absurd y (by omega)) (fun _ => sM_endsAt hM1 hV (by omega) (by omega) (fun y => pb_1 (sM_bey (by omega) (hM1.one (by omega)) (hM1.other (by omega)) (by omega) (by omega) ?_)) (fun y => pb_0 ?_)) hM1.passages
      · unfold ea at y
        rw [if_pos y] at g2 k3'
        have D0 := k3' (by omega)
        show (vp_in (nI (ac f v r)) 5) ∧ _
        refine ⟨vp_i (by omega) (by decide), ?_⟩
        rw [nI_add]
        refine ⟨vp_i (by omega) (by decide), nI_ne0 (by omega) (by omega), fun M12 e12 => ?_⟩
        have e12' : M12 = wJ M1 21 (vp_updL (M1.2 21) (nI (ac f v r)).toNatClampNeg ((M1.2 21 (nI (ac f v r)).toNatClampNeg) + ((M1.2 20 (nI (o + r)).toNatClampNeg) * (((420 : Int32) / nI D).toInt64)))) := e12
        have e4 : (420 : Int32) / nI D = nI (420 / D) := by
          rw [show (420 : Int32) = nI 420 from rfl, pk_div (by decide) (by omega) (by omega)]
        have d420 : 420 / D ≤ 420 := Nat.div_le_self _ _
        rw [cl_i (show ac f v r < 2 ^ 31 by omega), cl_i (show o + r < 2 ^ 31 by omega), e4, nI_l (by omega), k1, hc r hr, k2 _ a1, lN_mul, lN_add] at e12'
        rw [nI_1]
        refine ih (v + 1) (ad d (ac f v r) (ch r * (420 / D))) M12 (by omega) (k0.w (by decide) e12') (by rw [jpo e12' (by decide)]; exact k1) (fun q hq => ?_) (fun _ => D0) g2
        rw [e12', wJ_same]
        unfold ad
        by_cases w : q = ac f v r
        · rw [w, pk_uLs, upN_s]
        · rw [pk_uLn w, upN_n w]
          exact k2 q hq
      · unfold ea at y
        rw [if_neg y, Nat.zero_add] at k3'
        rw [if_neg y] at g2
        rw [nI_1]
        exact ih (v + 1) d M1 (by omega) k0 k1 k2 k3' g2
  have shP0 : ∀ (r x m : Nat) (v : Nat) (d : Nat → Nat), dF f r m v = 0 → shP f r x m v d = d := by
    intro r x m
    induction m with
    | zero => intro v d _; rfl
    | succ m ih =>
      intro v d h0
      have h0' : (if f 0 v = r ∨ f 1 v = r then 1 else 0) + dF f r m (v + 1) = 0 := h0
      have z : ¬ (f 0 v = r ∨ f 1 v = r) := fun q => by rw [if_pos q] at h0'; omega
      show shP f r x m (v + 1) (if f 0 v = r ∨ f 1 v = r then ad d (ac f v r) x else d) = d
      rw [if_neg z] at h0' ⊢
      exact ih (v + 1) d (by omega)
  have L25 : ∀ m r (d : Nat → Nat) (M1 : Mm), r + m = s 0 → eqJ M M1 → M1.2 20 = M.2 20 → (∀ q, q < s 0 → M1.2 21 q = lN (d q)) → tnS s f ch m r d = tn s f ch → w_X12_turn_25 post (m + 1) (nI o) (nI r) M1 := by
    intro m
    induction m with
    | zero =>
      intro r d M1 hr k0 k1 k2 k3
      have k3' : d = tn s f ch := k3
      refine pk_le (s 0) r (fun _ => ⟨s 0 + 1, L134 (s 0) 0 M1 (by omega) k0 (fun q _ => by rw [k1]) (fun q hq => by rw [k2 q hq, k3']) (fun q hq => absurd hq (by omega))⟩) (fun z => absurd z (by omega)) (hM.wj k0.1).rooms
    | succ m ih =>
      intro r d M1 hr k0 k1 k2 k3
      have hM1 := hM.wj k0.1
      have dl := dF_le f r (s 1) 0
      have k3' : tnS s f ch m (r + 1) (rmS s f ch r d) = tn s f ch := k3
      refine pk_le (s 0) r (fun z => absurd z (by omega)) (fun _ => sM_doors hM1 hV (by omega) ⟨vp_i (by omega) (by decide), ?_⟩) hM1.rooms
      rw [cl_i (show r < 2 ^ 31 by omega), nI_add]
      refine re_ (dF f r (s 1) 0) 0 (fun z M25 e25 => ⟨s 1 + 1, ?_⟩) (fun z => ⟨vp_i (by omega) (by decide), fun M28 e28 => ⟨s 1 + 1, ?_⟩⟩)
      · rw [Int64.add_zero] at e25
        have r25 : ∀ q, q < s 0 → M25.2 21 q = lN (d q) := fun q hq => by
          rw [e25, wJ_same]
          by_cases w : q = r
          · rw [w, pk_uLs]; exact k2 r (by omega)
          · rw [pk_uLn w]; exact k2 q hq
        refine L71 _ r (by omega) (dF f r (s 1) 0) rfl (s 1) 0 d M25 (by omega) (k0.w (by decide) e25) (by rw [jpo e25 (by decide)]; exact k1) r25 (fun _ => z) (fun M2 j0 j1 j2 => ?_)
        rw [nI_1]
        refine ih (r + 1) (rmS s f ch r d) M2 (by omega) j0 j1 (fun q hq => ?_) k3'
        unfold rmS
        rw [if_neg z]
        exact j2 q hq
      · have e4 : (420 : Int64) = lN 420 := rfl
        rw [cl_i (show o + r < 2 ^ 31 by omega), k1, hc r (by omega), k2 r (by omega), e4, lN_mul, lN_add] at e28
        have r28 : ∀ q, q < s 0 → M28.2 21 q = lN (ad d r (ch r * 420) q) := fun q hq => by
          rw [e28, wJ_same]
          unfold ad
          by_cases w : q = r
          · rw [w, pk_uLs, upN_s]
          · rw [pk_uLn w, upN_n w]; exact k2 q hq
        refine L71 _ r (by omega) (dF f r (s 1) 0) rfl (s 1) 0 (ad d r (ch r * 420)) M28 (by omega) (k0.w (by decide) e28) (by rw [jpo e28 (by decide)]; exact k1) r28 (fun q => absurd z q) (fun M2 j0 j1 j2 => ?_)
        rw [nI_1]
        refine ih (r + 1) (rmS s f ch r d) M2 (by omega) j0 j1 (fun q hq => ?_) k3'
        unfold rmS
        rw [if_pos z]
        rw [shP0 r _ (s 1) 0 _ z] at j2
        exact j2 q hq
  have L2 : ∀ m v (M1 : Mm), v + m = s 0 → eqJ M M1 → M1.2 20 = M.2 20 → (∀ q, q < v → M1.2 21 q = 0) → w_X12_turn_2 post (m + 1) (nI o) (nI v) M1 := by
    intro m
    induction m with
    | zero =>
      intro v M1 hv k0 k1 k2
      obtain rfl : v = s 0 := by omega
      exact pk_le (s 0) (s 0) (fun _ => ⟨s 0 + 1, L25 (s 0) 0 (fun _ => 0) M1 (by omega) k0 k1 (fun q hq => by rw [k2 q hq]; rfl) rfl⟩) (fun z => absurd z (by omega)) (hM.wj k0.1).rooms
    | succ m ih =>
      intro v M1 hv k0 k1 k2
      refine pk_le (s 0) v (fun z => absurd z (by omega)) (fun _ => ⟨vp_i (by omega) (by decide), fun M32 e32 => ?_⟩) (hM.wj k0.1).rooms
      rw [cl_i (by omega)] at e32
      rw [nI_1]
      refine ih (v + 1) M32 (by omega) (k0.w (by decide) e32) (by rw [jpo e32 (by decide)]; exact k1) (fun q hq => ?_)
      rw [e32, wJ_same]
      by_cases w : q = v
      · rw [w, pk_uLs]
      · rw [pk_uLn w]; exact k2 q (by omega)
  exact ⟨s 0 + 1, L2 (s 0) 0 M (by omega) ⟨rfl, rfl⟩ rfl (fun q hq => absurd hq (by omega))⟩
theorem sM_meetNow {s : Nat → Nat} {f : Nat → Nat → Nat} {T i j t w : Nat} {M : Mm} {post : Int64 → Mm → Prop} (hM : HM M s f) (hV : Vt T s f) (hi : i < s 2) (hj : j < s 2) (ht : t ≤ 3) (hw : w ≤ 1) (h : ∀ M1 : Mm, eqJ M M1 → post (if w = 0 then lN (mA s f t i j / Nat.gcd (mB t) (mA s f t i j)) else lN (mB t / Nat.gcd (mB t) (mA s f t i j))) M1) : w_X12_meetNow (nI i) (nI j) (nI t) (nI w) M post := by
  have hs := hV.1.2.2.1
  have hs0 := hV.1.1
  have vi := hV.2.2.2.1 i hi
  have vj := hV.2.2.2.1 j hj
  have al := mA_le hV t i j
  have bl := mB_lt ht
  have L105 : ∀ m v (M1 : Mm), v + m = s 0 → eqJ M M1 → (∀ q, q < s 0 → M1.2 20 q = lN (mT s f t i q) ∧ M1.2 20 (5 + q) = lN (mT s f t j q)) → w_X12_meetNow_105 post (m + 1) (nI w) (lN (mB t)) (lN (dot (mT s f t i) (mT s f t j) v)) (nI v) M1 := by
    intro m
    induction m with
    | zero =>
      intro v M1 hv k0 k1
      obtain rfl : v = s 0 := by omega
      have gp : 0 < Nat.gcd (mB t) (mA s f t i j) := Nat.gcd_pos_of_pos_left _ bl.2
      have gl : Nat.gcd (mB t) (mA s f t i j) ≤ mB t := Nat.le_of_dvd bl.2 (Nat.gcd_dvd_left _ _)
      have ed : dot (mT s f t i) (mT s f t j) (s 0) = mA s f t i j := rfl
      rw [ed]
      have g := h M1 k0
      have n0 : ¬ lN (Nat.gcd (mB t) (mA s f t i j)) = 0 := fun q => by
        have := (pk_lEQ (b := 0) (by omega) (by decide)).mp q
        omega
      refine pk_le (s 0) (s 0) (fun _ => ⟨2 * 53 + 2, sM_gcd 53 (mA s f t i j) (mB t) bl.1 (by omega) (by omega) ?_⟩) (fun z => absurd z (by omega)) (hM.wj k0.1).rooms
      refine re_ w 0 (fun z => ⟨n0, ?_⟩) (fun z => ⟨n0, ?_⟩)
      · rw [if_neg z] at g
        rw [pk_lDiv (by omega) gp (by omega)]
        exact g
      · rw [if_pos z] at g
        rw [pk_lDiv (by omega) gp (by omega)]
        exact g
    | succ m ih =>
      intro v M1 hv k0 k1
      have kv := k1 v (by omega)
      refine pk_le (s 0) v (fun z => absurd z (by omega)) (fun _ => ⟨vp_i (by omega) (by decide), ?_⟩) (hM.wj k0.1).rooms
      have e5 : (5 : Int32) + nI v = nI (5 + v) := by rw [pi_5, nI_add]
      rw [e5]
      refine ⟨vp_i (by omega) (by decide), ?_⟩
      rw [cl_i (by omega), cl_i (by omega), kv.1, kv.2, lN_mul, lN_add, nI_1]
      exact ih (v + 1) M1 (by omega) k0 k1
  have L69 : ∀ m v (a b : Nat → Nat) (M1 : Mm), v + m = t → eqJ M M1 → (∀ q, q < s 0 → M1.2 20 q = lN (a q) ∧ M1.2 20 (5 + q) = lN (b q)) → tnN s f m a = mT s f t i → tnN s f m b = mT s f t j → w_X12_meetNow_69 post (m + 1) (nI t) (nI w) (lN (mB v)) (nI v) M1 := by
    intro m
    induction m with
    | zero =>
      intro v a b M1 hv k0 k1 k2 k3
      obtain rfl : v = t := by omega
      have k2' : a = mT s f v i := k2
      have k3' : b = mT s f v j := k3
      exact pk_le v v (fun _ => ⟨s 0 + 1, L105 (s 0) 0 M1 (by omega) k0 (fun q hq => by rw [← k2', ← k3']; exact k1 q hq)⟩) (fun z => absurd z (by omega))
    | succ m ih =>
      intro v a b M1 hv k0 k1 k2 k3
      refine pk_le t v (fun z => absurd z (by omega)) (fun _ => ?_)
      refine sM_turn (o := 0) (ch := a) (by omega) (hM.wj k0.1) hV (fun q hq => by rw [Nat.zero_add]; exact (k1 q hq).1) (fun M23 j0 j1 j2 => ?_)
      refine sM_turn (o := 5) (ch := b) (by omega) (hM.wj (k0.tr j0).1) hV (fun q hq => by rw [j1 (5 + q) (by omega)]; exact (k1 q hq).2) (fun M26 i0 i1 i2 => ?_)
      have e4 : (176400 : Int64) = lN 176400 := rfl
      rw [e4, lN_mul, nI_1]
      have eb : mB v * 176400 = mB (v + 1) := by unfold mB; rw [Nat.pow_succ]
      rw [eb]
      refine ih (v + 1) (tn s f a) (tn s f b) M26 (by omega) ((k0.tr j0).tr i0) (fun q hq => ⟨?_, i2 q hq⟩) k2 k3
      rw [i1 q (by omega)]
      have := j2 q hq
      rw [Nat.zero_add] at this
      exact this
  have L3 : ∀ m v (M1 : Mm), v + m = 5 → eqJ M M1 → (∀ q, q < v → M1.2 20 q = lN (e1 (f 6 i) q) ∧ M1.2 20 (5 + q) = lN (e1 (f 6 j) q)) → w_X12_meetNow_3 post (m + 1) (nI i) (nI j) (nI t) (nI w) (nI v) M1 := by
    intro m
    induction m with
    | zero =>
      intro v M1 hv k0 k1
      obtain rfl : v = 5 := by omega
      exact pb_t (by decide) ⟨t + 1, L69 t 0 (e1 (f 6 i)) (e1 (f 6 j)) M1 (by omega) k0 (fun q hq => k1 q (by omega)) rfl rfl⟩
    | succ m ih =>
      intro v M1 hv k0 k1
      have hM1 := hM.wj k0.1
      have fin : ∀ x : Nat, x = e1 (f 6 i) v → w_X12_meetNow_31 post (w_X12_meetNow_3 post (m + 1)) (nI i) (nI j) (nI t) (nI w) (nI v) (nI v) (lN x) M1 := by
        intro x hx
        unfold w_X12_meetNow_31
        refine ⟨vp_i (by omega) (by decide), fun M2 e2 => ⟨vp_i (by omega) (by decide), ?_⟩⟩
        rw [cl_i (by omega)] at e2
        have hM2 : HM M2 s f := hM1.wj (by rw [e2]; rfl)
        have e5 : (5 : Int32) + nI v = nI (5 + v) := by rw [pi_5, nI_add]
        rw [cl_i (show j < 2 ^ 31 by omega), hM2.place (by omega), e5]
        have fin2 : ∀ (y : Nat) (M7 : Mm), y = e1 (f 6 j) v → M7 = wJ M2 20 (vp_updL (M2.2 20) (nI (5 + v)).toNatClampNeg (lN y)) → w_X12_meetNow_3 post (m + 1) (nI i) (nI j) (nI t) (nI w) (nI v + 1) M7 := by
          intro y M7 hy e7
          rw [cl_i (by omega)] at e7
          rw [nI_1]
          refine ih (v + 1) M7 (by omega) ((k0.w (by decide) e2).w (by decide) e7) (fun q hq => ⟨?_, ?_⟩)
          · rw [e7, wJ_same, pk_uLn (by omega), e2, wJ_same]
            by_cases z : q = v
            · rw [z, pk_uLs, hx]
            · rw [pk_uLn z]
              exact (k1 q (by omega)).1
          · rw [e7, wJ_same]
            by_cases z : q = v
            · rw [z, pk_uLs, hy]
            · rw [pk_uLn (by omega), e2, wJ_same, pk_uLn (by omega)]
              exact (k1 q (by omega)).2
        refine re_ (f 6 j) v (fun z => ⟨vp_i (by omega) (by decide), fun M7 e7 => fin2 0 M7 ?_ e7⟩) (fun z => ⟨vp_i (by omega) (by decide), fun M7 e7 => fin2 1 M7 ?_ e7⟩)
        · unfold e1
          rw [if_neg (fun q => z q.symm)]
        · unfold e1
          rw [if_pos z.symm]
      refine pk_le 5 v (fun z => absurd z (by omega)) (fun _ => ⟨vp_i (by omega) (by decide), ?_⟩)
      rw [cl_i (show i < 2 ^ 31 by omega), hM1.place (by omega)]
      refine re_ (f 6 i) v (fun z => fin 0 ?_) (fun z => fin 1 ?_)
      · unfold e1
        rw [if_neg (fun q => z q.symm)]
      · unfold e1
        rw [if_pos z.symm]
  exact ⟨6, L3 5 0 M rfl ⟨rfl, rfl⟩ (fun q hq => absurd hq (by omega))⟩
theorem Rel.wj {k : Nat} {MX MM MX1 MM1 : Mm} (h : Rel k MX MM) (e1 : MX1.1 = MX.1) (e2 : MM1.1 = MM.1) : Rel k MX1 MM1 := h.fr (fun n _ => by rw [e1]) ⟨fun j _ _ _ => by rw [e2], fun n _ => by rw [e2]⟩
theorem sim_meet (k : Nat) (MX MM : Mm) (x1 x2 x3 x4 : Int32) (hk : k < 512) (hR : Rel k MX MM) : w_X11_meet x1 x2 x3 x4 MX (fun r MX1 => w_X12_meet x1 x2 x3 x4 MM (fun r1 MM1 => r = r1 ∧ Rel (k + 1) MX1 MM1)) := by
  have hR1 := hR.up
  obtain ⟨s, f, hX, hM, v, hR⟩ := hR.el
  have hs := v.1.2.2.1
  unfold w_X11_meet
  have bad : ¬ (isIdx (s 2) x1 ∧ isIdx (s 2) x2 ∧ ¬ x1 = x2) → w_X12_meet x1 x2 x3 x4 MM (fun r1 MM1 => (-101 : Int64) = r1 ∧ Rel (k + 1) MX MM1) := by
    intro q
    unfold w_X12_meet
    exact sM_isPerson hM.people (by omega) (fun a1 => pb_1 (sM_isPerson hM.people (by omega) (fun a2 => pb_1 ⟨fun a3 => absurd ⟨a1, a2, a3⟩ q, fun _ => ⟨rfl, hR1⟩⟩) (fun a2 => pb_0 ⟨rfl, hR1⟩))) (fun a1 => pb_0 ⟨rfl, hR1⟩)
  refine sX_hasPerson hX.people (by omega) (fun a1 => pb_1 (sX_hasPerson hX.people (by omega) (fun a2 => pb_1 ⟨fun a3 => ?_, fun a3 => bad (fun q => q.2.2 a3)⟩) (fun a2 => pb_0 (bad (fun q => a2 q.2.1))))) (fun a1 => pb_0 (bad (fun q => a1 q.1)))
  have W : ∀ {A : Int64 → Mm → Prop}, ((w_X12_within x3 (1 : Int32) (3 : Int32) MM (fun r10 M11 => ((r10 = 0) → (A (-102 : Int64) M11)) ∧ ((¬ r10 = 0) → (w_X12_within x4 (0 : Int32) (1 : Int32) M11 (fun r14 M15 => ((r14 = 0) → (A (-102 : Int64) M15)) ∧ ((¬ r14 = 0) → (w_X12_meetNow x1 x2 x3 x4 M15 (fun r18 M19 => A r18 M19)))))))) → w_X12_meet x1 x2 x3 x4 MM A) := by
    intro A g
    unfold w_X12_meet
    exact sM_isPerson hM.people (by omega) (fun _ => pb_1 (sM_isPerson hM.people (by omega) (fun _ => pb_1 ⟨fun _ => g, fun q => absurd q a3⟩) (fun q => absurd a2 q))) (fun q => absurd a1 q)
  refine ⟨fun q => W (sM_within (fun z _ => absurd q z) (fun _ => pb_0 ⟨rfl, hR1⟩)), fun q => ⟨fun q2 => W (sM_within (fun _ z => absurd q2 z) (fun _ => pb_0 ⟨rfl, hR1⟩)), fun q2 => ?_⟩⟩
  have W3 : ∀ {A B : Mm → Prop}, B MM → w_X12_within x3 1 3 MM (fun r1 M2 => (r1 = 0 → A M2) ∧ (¬ r1 = 0 → B M2)) := by
    intro A B hB
    refine sM_within (fun _ _ => pb_1 hB) (fun z => ?_)
    rcases z with z | z
    · exact absurd z q
    · exact absurd z q2
  refine ⟨fun q3 => W (W3 (sM_within (fun z _ => absurd q3 z) (fun _ => pb_0 ⟨rfl, hR1⟩))), fun q3 => ⟨fun q4 => ?_, fun q4 => W (W3 (sM_within (fun _ z => absurd (le_nlt.mpr z) q4) (fun _ => pb_0 ⟨rfl, hR1⟩)))⟩⟩
  obtain ⟨t, t1, t3, rfl⟩ := inR (lo := 1) (hi := 3) (by decide) q (le_nlt.mpr q2) (by decide)
  obtain ⟨w, -, w1, rfl⟩ := inR (lo := 0) (hi := 1) (by decide) q3 q4 (by decide)
  obtain ⟨i, hi, rfl⟩ := a1
  obtain ⟨j, hj, rfl⟩ := a2
  refine sX_compare hX v hi hj t3 (fun M15 f15 g4 g5 => ?_)
  have fin : ∀ r : Int64, r = (if w = 0 then lN (mA s f t i j / Nat.gcd (mB t) (mA s f t i j)) else lN (mB t / Nat.gcd (mB t) (mA s f t i j))) → w_X12_meet (nI i) (nI j) (nI t) (nI w) MM (fun r1 MM1 => r = r1 ∧ Rel (k + 1) M15 MM1) := by
    intro r hr
    refine W (W3 (sM_within (fun _ _ => pb_1 (sM_meetNow hM v hi hj t3 w1 (fun M19 f19 => ⟨hr, hR1.wj f15 f19.1⟩))) (fun z => ?_)))
    rcases z with z | z
    · exact absurd z q3
    · exact absurd z (le_nlt.mp q4)
  refine re_ w 0 (fun z => ?_) (fun z => ?_)
  · rw [g5]
    exact fin _ (by rw [if_neg z])
  · rw [g4]
    exact fin _ (by rw [if_pos z])
