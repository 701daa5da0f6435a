/-! ===== far: the rows of the two sides ===== -/
def tl (f : Nat → Nat → Nat) (i p : Nat) : Nat := stp f i p 0 (f 5 i)
def dL (s : Nat → Nat) (f : Nat → Nat → Nat) (i g : Nat) : Nat → Nat := rnds (f 0) (f 1) (tl f i) (s 1) (s 0 - 1) (i0 g 1000000)
theorem yd_pos {k len de li : Nat} (h : 1 ≤ len) : 1 ≤ yd k len de li := by
  unfold yd
  split
  · omega
  · split
    · omega
    · split
      · omega
      · split
        · omega
        · omega
theorem tl_in {T : Nat} {s : Nat → Nat} {f : Nat → Nat → Nat} (v : Vt T s f) {i : Nat} (hi : i < s 2) : ∀ p, p < s 1 → 1 ≤ tl f i p ∧ tl f i p ≤ 108 := by
  intro p hp
  have vp := v.2.2.1 p hp
  have vi := v.2.2.2.1 i hi
  refine ⟨?_, stp_le v hi hp (Nat.zero_le _) (by omega)⟩
  show 1 ≤ stp f i p 0 (f 5 i)
  unfold stp
  rw [if_pos rfl]
  exact yd_pos (by omega)
theorem ab_in {T : Nat} {s : Nat → Nat} {f : Nat → Nat → Nat} (v : Vt T s f) : ∀ p, p < s 1 → f 0 p < s 0 ∧ f 1 p < s 0 ∧ f 0 p ≠ f 1 p := fun p hp => ⟨(v.2.2.1 p hp).1, (v.2.2.1 p hp).2.1, (v.2.2.1 p hp).2.2.1⟩
theorem dL_all {T : Nat} {s : Nat → Nat} {f : Nat → Nat → Nat} (v : Vt T s f) {i g : Nat} (hi : i < s 2) (hg : g < s 0) : (∀ r, r < s 0 → dL s f i g r ≤ 432 ∨ dL s f i g r = 1000000) ∧ Rest (f 0) (f 1) (tl f i) (s 1) (s 0) g 1000000 (dL s f i g) ∧ ∀ r, r < s 0 → rnds (f 0) (f 1) (tl f i) (s 1) (s 0) (i0 g 268435456) r = fx (dL s f i g r) := dist_all v.1.1 hg (ab_in v) (tl_in v hi)
theorem min_i {a b : Nat} (ha : a < 2 ^ 31) (hb : b < 2 ^ 31) : (if nI a < nI b then nI a else nI b) = nI (min b a) := by
  by_cases z : a < b
  · rw [if_pos (nI_lt z hb)]
    exact congrArg nI (by omega)
  · rw [if_neg (nI_nlt (by omega) ha)]
    exact congrArg nI (by omega)
theorem sX_shorten {a b t n : Nat} {d : Nat → Nat} {M : Mm} {post : Mm → Prop} (hn : n ≤ 5) (ha : a < n) (hb : b < n) (hab : a ≠ b) (ht : t ≤ 108) (hr : ∀ r, r < n → M.1 62 r = nI (d r)) (hd : ∀ r, r < n → d r ≤ 268435456) (h : ∀ M1 : Mm, (∀ q, q ≠ 62 → M1.1 q = M.1 q) → (∀ r, r < n → M1.1 62 r = nI (rlx a b t d r)) → post M1) : w_X9_shorten (nI a) (nI b) (nI t) M post := by
  have da := hd a ha
  have db := hd b hb
  unfold w_X9_shorten
  refine ⟨vp_i (by omega) (by decide), vp_i (by omega) (by decide), fun M3 e3 M5 e5 => ?_⟩
  rw [cl_i (show a < 2 ^ 31 by omega), cl_i (show b < 2 ^ 31 by omega), hr a ha, hr b hb, nI_add, min_i (by omega) (by omega)] at e3
  have f1 : M3.1 62 a = nI (min (d a) (d b + t)) := by rw [e3, wI_same, pk_us]
  have f2 : M3.1 62 b = nI (d b) := by rw [e3, wI_same, pk_un (Ne.symm hab), hr b hb]
  rw [cl_i (show a < 2 ^ 31 by omega), cl_i (show b < 2 ^ 31 by omega), f1, f2, nI_add, min_i (by omega) (by omega)] at e5
  refine h M5 (fun q hq => by rw [cpo e5 hq, cpo e3 hq]) (fun r hrn => ?_)
  rw [e5, wI_same]
  by_cases c1 : r = b
  · rw [c1, pk_us, rlx_b hab]
  · rw [pk_un c1, e3, wI_same]
    by_cases c2 : r = a
    · rw [c2, pk_us, rlx_a hab]
    · rw [pk_un c2, rlx_n c2 c1, hr r hrn]
theorem sX_fill {an : Nat} {x : Int32} {M : Mm} {post : Mm → Prop} (h : ∀ M1 : Mm, (∀ q, q ≠ an → M1.1 q = M.1 q) → (∀ r, r < 5 → M1.1 an r = x) → post M1) : w_J7_fill_53178 an x M post := by
  have key : ∀ m v (M' : Mm), v + m = 5 → (∀ q, q ≠ an → M'.1 q = M.1 q) → (∀ r, r < v → M'.1 an r = x) → w_J7_fill_53178_5 an post (m + 1) x (nI v) 5 M' := by
    intro m
    induction m with
    | zero =>
      intro v M' hv h1 h2
      obtain rfl : v = 5 := by omega
      exact pb_t (by decide) (h M' h1 h2)
    | succ m ih =>
      intro v M' hv h1 h2
      refine pk_le 5 v (fun z => absurd z (by omega)) (fun _ => ⟨vp_i (by omega) (by decide), fun M3 e3 => ?_⟩)
      rw [cl_i (by omega)] at e3
      rw [nI_1]
      refine ih (v + 1) M3 (by omega) (fun q hq => by rw [cpo e3 hq, h1 q hq]) (fun r hr => ?_)
      rw [e3, wI_same]
      by_cases c : r = v
      · rw [c, pk_us]
      · rw [pk_un c]
        exact h2 r (by omega)
  exact ⟨6, key 5 0 M rfl (fun _ _ => rfl) (fun r hr => absurd hr (by omega))⟩
def oq (M M1 : Mm) : Prop := ∀ q, q ≠ 61 → q ≠ 62 → M1.1 q = M.1 q
theorem oq.hx {M M1 : Mm} {s : Nat → Nat} {f : Nat → Nat → Nat} (h : oq M M1) (hX : HX 3 M s f) : HX 3 M1 s f := hX.cg (fun n a b => h n (by omega) (by omega))
theorem rnds_ble {A B T : Nat → Nat} {m k v : Nat} {g r : Nat} (hab : ∀ p, p < m → A p ≠ B p) : rnds A B T m k (i0 g v) r ≤ v := by
  have := rnds_le (T := T) hab (i0 g v) 0 k r
  rw [Nat.zero_add] at this
  have h4 : i0 g v r ≤ v := i0_le
  have h5 : rnds A B T m 0 (i0 g v) r = i0 g v r := rfl
  omega
theorem sX_measure {i g : Nat} {M : Mm} {s : Nat → Nat} {f : Nat → Nat → Nat} {T : Nat} {post : Mm → Prop} (hX : HX 3 M s f) (hV : Vt T s f) (hi : i < s 2) (hg : g < s 0) (h : ∀ M1 : Mm, oq M M1 → (∀ p, p < s 1 → M1.1 61 p = nI (tl f i p)) → (∀ r, r < s 0 → M1.1 62 r = nI (dL s f i g r)) → post M1) : w_X9_measure (nI i) (nI g) M post := by
  have hs := hV.1.2.2.1
  have hs1 := hV.1.2.1
  have hs0 := hV.1.1
  have ab := ab_in hV
  have tt := tl_in hV hi
  have hab : ∀ p, p < s 1 → f 0 p ≠ f 1 p := fun p hp => (ab p hp).2.2
  have L63 : ∀ (k51 : Int32 → Mm → Prop) (v : Int32) (d : Nat → Nat) (hd : ∀ r, d r ≤ 1000000) (hk : ∀ M1 : Mm, oq M M1 → (∀ p, p < s 1 → M1.1 61 p = nI (tl f i p)) → (∀ r, r < s 0 → M1.1 62 r = nI (rnd (f 0) (f 1) (tl f i) (s 1) d r)) → k51 (v + 1) M1), ∀ q p (M1 : Mm), p + q = s 1 → oq M M1 → (∀ p, p < s 1 → M1.1 61 p = nI (tl f i p)) → (∀ r, r < s 0 → M1.1 62 r = nI (rnd (f 0) (f 1) (tl f i) p d r)) → w_X9_measure_63 post k51 (q + 1) v (nI p) M1 := by
    intro k51 v d hd hk q
    induction q with
    | zero =>
      intro p M1 hp o1 h1 h2
      obtain rfl : p = s 1 := by omega
      exact pk_le (s 1) (s 1) (fun _ => hk M1 o1 h1 h2) (fun z => absurd z (by omega)) (H3_passages (o1.hx hX))
    | succ q ih =>
      intro p M1 hp o1 h1 h2
      have hX1 := o1.hx hX
      have abp := ab p (by omega)
      have tp := tt p (by omega)
      refine pk_le (s 1) p (fun z => absurd z (by omega)) (fun _ => ⟨vp_i (by omega) (by decide), ?_⟩) (H3_passages hX1)
      rw [cl_i (by omega), H3_one hX1 (by omega), H3_other hX1 (by omega), h1 p (by omega), nI_1]
      refine sX_shorten hs0 abp.1 abp.2.1 abp.2.2 tp.2 h2 (fun r hr => ?_) (fun M2 o2 h3 => ih (p + 1) M2 (by omega) (fun q a b => (o2 q b).trans (o1 q a b)) (fun p hp => by rw [o2 61 (by decide)]; exact h1 p hp) h3)
      have := rnd_le (A := f 0) (B := f 1) (T := tl f i) (m := p) (fun p' hp' => hab p' (by omega)) d r
      have := hd r
      omega
  have L51 : ∀ m v (M1 : Mm), v + m = s 0 → 1 ≤ v → oq M M1 → (∀ p, p < s 1 → M1.1 61 p = nI (tl f i p)) → (∀ r, r < s 0 → M1.1 62 r = nI (rnds (f 0) (f 1) (tl f i) (s 1) (v - 1) (i0 g 1000000) r)) → w_X9_measure_51 post (m + 1) (nI v) M1 := by
    intro m
    induction m with
    | zero =>
      intro v M1 hv hv1 o1 h1 h2
      obtain rfl : v = s 0 := by omega
      exact pk_le (s 0) (s 0) (fun _ => h M1 o1 h1 h2) (fun z => absurd z (by omega)) (H3_rooms (o1.hx hX))
    | succ m ih =>
      intro v M1 hv hv1 o1 h1 h2
      refine pk_le (s 0) v (fun z => absurd z (by omega)) (fun _ => ⟨s 1 + 1, ?_⟩) (H3_rooms (o1.hx hX))
      refine L63 _ (nI v) (rnds (f 0) (f 1) (tl f i) (s 1) (v - 1) (i0 g 1000000)) (fun r => rnds_ble hab) (fun M2 o2 h3 h4 => ?_) (s 1) 0 M1 (by omega) o1 h1 h2
      rw [nI_1]
      refine ih (v + 1) M2 (by omega) (by omega) o2 h3 ?_
      rw [show v + 1 - 1 = (v - 1) + 1 by omega]
      exact h4
  have L3 : ∀ m v (M1 : Mm), v + m = s 1 → oq M M1 → (∀ p, p < v → M1.1 61 p = nI (tl f i p)) → w_X9_measure_3 post (m + 1) (nI i) (nI g) (nI v) M1 := by
    intro m
    induction m with
    | zero =>
      intro v M1 hv o1 h1
      obtain rfl : v = s 1 := by omega
      refine pk_le (s 1) (s 1) (fun _ => ?_) (fun z => absurd z (by omega)) (H3_passages (o1.hx hX))
      refine sX_fill (fun M9 o9 h9 => ⟨vp_i (by omega) (by decide), fun M12 e12 => ⟨s 0, ?_⟩⟩)
      rw [cl_i (by omega)] at e12
      have g1 := L51 (s 0 - 1) 1 M12 (by omega) (by omega) (fun q a b => by rw [cpo e12 b, o9 q b, o1 q a b]) (fun p hp => by rw [cpo e12 (by decide), o9 61 (by decide)]; exact h1 p hp) (fun r hr => ?_)
      · rw [show s 0 - 1 + 1 = s 0 by omega] at g1
        exact g1
      · rw [e12, wI_same]
        show upd (M9.1 62) g 0 r = nI (if r = g then 0 else 1000000)
        by_cases c : r = g
        · rw [c, pk_us, if_pos rfl]
          rfl
        · rw [pk_un c, if_neg c, h9 r (by omega)]
          rfl
    | succ m ih =>
      intro v M1 hv o1 h1
      have hX1 := o1.hx hX
      refine pk_le (s 1) v (fun z => absurd z (by omega)) (fun _ => ?_) (H3_passages hX1)
      refine sX_alone (by decide) hX1 hV hi (by omega) ⟨vp_i (by omega) (by decide), fun M18 e18 => ?_⟩
      rw [cl_i (by omega)] at e18
      rw [nI_1]
      refine ih (v + 1) M18 (by omega) (fun q a b => by rw [cpo e18 a, o1 q a b]) (fun p hp => ?_)
      rw [e18, wI_same]
      by_cases c : p = v
      · rw [c, pk_us]
        rfl
      · rw [pk_un c]
        exact h1 p (by omega)
  exact ⟨s 1 + 1, L3 (s 1) 0 M (by omega) (fun _ _ _ => rfl) (fun p hp => absurd hp (by omega))⟩
def o14 (M M1 : Mm) : Prop := (∀ q, q ≠ 14 → M1.1 q = M.1 q) ∧ M1.2 = M.2
theorem o14.hm {M M1 : Mm} {s : Nat → Nat} {f : Nat → Nat → Nat} (h : o14 M M1) (hM : HM M s f) : HM M1 s f := hM.cg (fun k hk => by rw [h.1 0 (by decide)]) (fun n a b => h.1 n (by omega))
theorem sM_layFar {i g : Nat} {M : Mm} {s : Nat → Nat} {f : Nat → Nat → Nat} {T : Nat} {post : Mm → Prop} (hM : HM M s f) (hV : Vt T s f) (hi : i < s 2) (hg : g < s 0) (h : ∀ M1 : Mm, o14 M M1 → (∀ r, r < s 0 → M1.1 14 r = nI (fx (dL s f i g r))) → post M1) : w_X12_layFar (nI i) (nI g) M post := by
  have hs := hV.1.2.2.1
  have hs1 := hV.1.2.1
  have hs0 := hV.1.1
  have vi := hV.2.2.2.1 i hi
  have ab := ab_in hV
  have tt := tl_in hV hi
  have hab : ∀ p, p < s 1 → f 0 p ≠ f 1 p := fun p hp => (ab p hp).2.2
  have L46 : ∀ (k35 : Int32 → Int32 → Mm → Prop) (v : Int32) (d : Nat → Nat) (hd : ∀ r, d r ≤ 268435456) (hk : ∀ M1 : Mm, o14 M M1 → (∀ r, r < s 0 → M1.1 14 r = nI (rnd (f 0) (f 1) (tl f i) (s 1) d r)) → k35 (nI i) (v + 1) M1), ∀ q p (M1 : Mm), p + q = s 1 → o14 M M1 → (∀ r, r < s 0 → M1.1 14 r = nI (rnd (f 0) (f 1) (tl f i) p d r)) → w_X12_layFar_46 post k35 (q + 1) (nI i) v (nI p) M1 := by
    intro k35 v d hd hk q
    induction q with
    | zero =>
      intro p M1 hp o1 h2
      obtain rfl : p = s 1 := by omega
      exact pk_le (s 1) (s 1) (fun _ => hk M1 o1 h2) (fun z => absurd z (by omega)) (o1.hm hM).passages
    | succ q ih =>
      intro p M1 hp o1 h2
      have hM1 := o1.hm hM
      have abp := ab p (by omega)
      have tp := tt p (by omega)
      refine pk_le (s 1) p (fun z => absurd z (by omega)) (fun _ => ?_) hM1.passages
      refine sM_alone hM1 hV hi (by omega) (f 5 i) (hM1.lie (by omega)) (by omega) ⟨vp_i (by omega) (by decide), ?_⟩
      show (vp_in (M1.1 2 (nI p).toNatClampNeg) 5) ∧ _
      generalize he : rnd (f 0) (f 1) (tl f i) p d = e at h2
      have eb : ∀ r, e r ≤ 268435456 := fun r => by
        have := rnd_le (A := f 0) (B := f 1) (T := tl f i) (m := p) (fun p' hp' => hab p' (by omega)) d r
        have h9 := hd r
        rw [he] at this
        omega
      have ea' := eb (f 0 p)
      have eb' := eb (f 1 p)
      rw [cl_i (show p < 2 ^ 31 by omega), hM1.one (by omega), hM1.other (by omega), cl_i (show f 0 p < 2 ^ 31 by omega), cl_i (show f 1 p < 2 ^ 31 by omega), h2 _ abp.1, h2 _ abp.2.1]
      have fin : ∀ w : Nat, w = min (e (f 0 p)) (e (f 1 p) + tl f i p) → w_X12_layFar_128 post k35 (w_X12_layFar_46 post k35 (q + 1)) (nI i) v (nI p) (nI (tl f i p)) (nI (f 0 p)) (nI (f 1 p)) (nI (f 0 p)) (nI w) M1 := by
        intro w hw
        unfold w_X12_layFar_128
        refine ⟨vp_i (by omega) (by decide), fun M2 e2 => ⟨vp_i (by omega) (by decide), vp_i (by omega) (by decide), ?_⟩⟩
        rw [cl_i (show f 0 p < 2 ^ 31 by omega)] at e2
        have f1 : M2.1 14 (f 0 p) = nI w := by rw [e2, wI_same, pk_us]
        have f2 : M2.1 14 (f 1 p) = nI (e (f 1 p)) := by rw [e2, wI_same, pk_un (Ne.symm abp.2.2), h2 _ abp.2.1]
        rw [cl_i (show f 0 p < 2 ^ 31 by omega), cl_i (show f 1 p < 2 ^ 31 by omega), f1, f2, nI_add, nI_1]
        have fin2 : ∀ (u : Nat) (M7 : Mm), u = min (e (f 1 p)) (w + tl f i p) → M7 = wI M2 14 (upd (M2.1 14) (f 1 p) (nI u)) → w_X12_layFar_46 post k35 (q + 1) (nI i) v (nI (p + 1)) M7 := by
          intro u M7 hu e7
          refine ih (p + 1) M7 (by omega) ⟨fun z hz => by rw [cpo e7 hz, cpo e2 hz, o1.1 z hz], by rw [e7, e2]; exact o1.2⟩ (fun r hr => ?_)
          show M7.1 14 r = nI (rlx (f 0 p) (f 1 p) (tl f i p) (rnd (f 0) (f 1) (tl f i) p d) r)
          rw [he, e7, wI_same]
          by_cases c1 : r = f 1 p
          · rw [c1, pk_us, rlx_b abp.2.2, hu, hw]
          · rw [pk_un c1, e2, wI_same]
            by_cases c2 : r = f 0 p
            · rw [c2, pk_us, rlx_a abp.2.2, hw]
            · rw [pk_un c2, rlx_n c2 c1, h2 r hr]
        exact pk_le (e (f 1 p)) (w + tl f i p) (fun z M7 e7 => fin2 (e (f 1 p)) M7 (by omega) e7) (fun z M7 e7 => fin2 (w + tl f i p) M7 (by omega) e7)
      show ((vp_in (nI (f 1 p)) 5) ∧ ((vp_in (nI (f 0 p)) 5) ∧ (((nI (e (f 0 p)) ≤ nI (e (f 1 p)) + nI (tl f i p)) → _) ∧ _)))
      refine ⟨vp_i (by omega) (by decide), vp_i (by omega) (by decide), ?_⟩
      show (((nI (e (f 0 p)) ≤ nI (e (f 1 p)) + nI (tl f i p)) → w_X12_layFar_128 post k35 (w_X12_layFar_46 post k35 (q + 1)) (nI i) v (nI p) (nI (tl f i p)) (nI (f 0 p)) (nI (f 1 p)) (nI (f 0 p)) (nI (e (f 0 p))) M1) ∧ (¬ (nI (e (f 0 p)) ≤ nI (e (f 1 p)) + nI (tl f i p)) → w_X12_layFar_128 post k35 (w_X12_layFar_46 post k35 (q + 1)) (nI i) v (nI p) (nI (tl f i p)) (nI (f 0 p)) (nI (f 1 p)) (nI (f 0 p)) (nI (e (f 1 p)) + nI (tl f i p)) M1))
      rw [nI_add]
      exact pk_le (e (f 0 p)) (e (f 1 p) + tl f i p) (fun z => fin _ (by omega)) (fun z => fin _ (by omega))
  have L35 : ∀ m v (M1 : Mm), v + m = s 0 → o14 M M1 → (∀ r, r < s 0 → M1.1 14 r = nI (rnds (f 0) (f 1) (tl f i) (s 1) v (i0 g 268435456) r)) → w_X12_layFar_35 post (m + 1) (nI i) (nI v) M1 := by
    intro m
    induction m with
    | zero =>
      intro v M1 hv o1 h2
      obtain rfl : v = s 0 := by omega
      refine pk_le (s 0) (s 0) (fun _ => h M1 o1 (fun r hr => ?_)) (fun z => absurd z (by omega)) (o1.hm hM).rooms
      rw [h2 r hr, (dL_all hV hi hg).2.2 r hr]
    | succ m ih =>
      intro v M1 hv o1 h2
      refine pk_le (s 0) v (fun z => absurd z (by omega)) (fun _ => ⟨s 1 + 1, ?_⟩) (o1.hm hM).rooms
      refine L46 _ (nI v) (rnds (f 0) (f 1) (tl f i) (s 1) v (i0 g 268435456)) (fun r => rnds_ble hab) (fun M2 o2 h4 => ?_) (s 1) 0 M1 (by omega) o1 h2
      rw [nI_1]
      exact ih (v + 1) M2 (by omega) o2 h4
  have L2 : ∀ m v (M1 : Mm), v + m = s 0 → o14 M M1 → (∀ r, r < v → M1.1 14 r = nI (i0 g 268435456 r)) → w_X12_layFar_2 post (m + 1) (nI i) (nI g) (nI v) M1 := by
    intro m
    induction m with
    | zero =>
      intro v M1 hv o1 h2
      obtain rfl : v = s 0 := by omega
      exact pk_le (s 0) (s 0) (fun _ => ⟨s 0 + 1, L35 (s 0) 0 M1 (by omega) o1 h2⟩) (fun z => absurd z (by omega)) (o1.hm hM).rooms
    | succ m ih =>
      intro v M1 hv o1 h2
      have fin : ∀ (x : Nat) (M3 : Mm), x = i0 g 268435456 v → M3 = wI M1 14 (upd (M1.1 14) (nI v).toNatClampNeg (nI x)) → w_X12_layFar_2 post (m + 1) (nI i) (nI g) (nI v + 1) M3 := by
        intro x M3 hx e3
        rw [cl_i (by omega)] at e3
        rw [nI_1]
        refine ih (v + 1) M3 (by omega) ⟨fun q hq => by rw [cpo e3 hq, o1.1 q hq], by rw [e3]; exact o1.2⟩ (fun r hr => ?_)
        rw [e3, wI_same]
        by_cases c : r = v
        · rw [c, pk_us, hx]
        · rw [pk_un c]
          exact h2 r (by omega)
      refine pk_le (s 0) v (fun z => absurd z (by omega)) (fun _ => ?_) (o1.hm hM).rooms
      refine re_ v g (fun z => ⟨vp_i (by omega) (by decide), fun M3 e3 => fin 268435456 M3 ?_ e3⟩) (fun z => ⟨vp_i (by omega) (by decide), fun M3 e3 => fin 0 M3 ?_ e3⟩)
      · unfold i0
        rw [if_neg z]
      · rw [z, i0_g]
  exact ⟨s 0 + 1, L2 (s 0) 0 M (by omega) ⟨fun _ _ => rfl, rfl⟩ (fun r hr => absurd hr (by omega))⟩
/-- the first passage of a fewest way -/
def nx (f : Nat → Nat → Nat) (t L : Nat → Nat) (r : Nat) : Nat → Nat → Int32
  | 0, _ => -1
  | m + 1, v => if (f 0 v = r ∨ f 1 v = r) ∧ t v + L (ac f v r) = L r then nI v else nx f t L r m (v + 1)
theorem nx_or (f : Nat → Nat → Nat) (t L : Nat → Nat) (r m : Nat) : ∀ v, (nx f t L r m v = -1 ∧ ∀ p, v ≤ p → p < v + m → ¬ ((f 0 p = r ∨ f 1 p = r) ∧ t p + L (ac f p r) = L r)) ∨ ∃ p, v ≤ p ∧ p < v + m ∧ nx f t L r m v = nI p ∧ (f 0 p = r ∨ f 1 p = r) ∧ t p + L (ac f p r) = L r := by
  induction m with
  | zero => intro v; exact Or.inl ⟨rfl, fun p h1 h2 => absurd h2 (by omega)⟩
  | succ m ih =>
    intro v
    by_cases c : (f 0 v = r ∨ f 1 v = r) ∧ t v + L (ac f v r) = L r
    · refine Or.inr ⟨v, Nat.le_refl _, by omega, ?_, c⟩
      show (if _ then _ else _) = _
      rw [if_pos c]
    · have e : nx f t L r (m + 1) v = nx f t L r m (v + 1) := by
        show (if _ then _ else _) = _
        rw [if_neg c]
      rw [e]
      rcases ih (v + 1) with ⟨h1, h2⟩ | ⟨p, h1, h2, h3⟩
      · refine Or.inl ⟨h1, fun p a b => ?_⟩
        by_cases z : p = v
        · rw [z]; exact c
        · exact h2 p (by omega) (by omega)
      · exact Or.inr ⟨p, by omega, by omega, h3⟩
def pth (s : Nat → Nat) (f : Nat → Nat → Nat) (t L : Nat → Nat) : Nat → Nat → Int32
  | 0, r => nx f t L r (s 1) 0
  | k + 1, r => if nx f t L r (s 1) 0 = -1 then -1 else pth s f t L k (ac f (nx f t L r (s 1) 0).toNatClampNeg r)
theorem pth_none {s : Nat → Nat} {f : Nat → Nat → Nat} {t L : Nat → Nat} {r : Nat} (h : nx f t L r (s 1) 0 = -1) (k : Nat) : pth s f t L k r = -1 := by
  cases k with
  | zero => exact h
  | succ k =>
    show (if _ then _ else _) = _
    rw [if_pos h]
theorem sX_next {i g r : Nat} {M : Mm} {s : Nat → Nat} {f : Nat → Nat → Nat} {T : Nat} {post : Int32 → Mm → Prop} (hX : HX 3 M s f) (hV : Vt T s f) (hi : i < s 2) (hg : g < s 0) (hr : r < s 0) (h1 : ∀ p, p < s 1 → M.1 61 p = nI (tl f i p)) (h2 : ∀ r, r < s 0 → M.1 62 r = nI (dL s f i g r)) (h : post (nx f (tl f i) (dL s f i g) r (s 1) 0) M) : w_X9_nextLeg (nI r) M post := by
  have hs1 := hV.1.2.1
  have hs0 := hV.1.1
  have da := (dL_all hV hi hg).1
  have key : ∀ m v, v + m = s 1 → post (nx f (tl f i) (dL s f i g) r m v) M → w_X9_nextLeg_2 post (m + 1) (nI r) (nI v) M := by
    intro m
    induction m with
    | zero =>
      intro v hv g1
      exact pk_le (s 1) v (fun _ => g1) (fun z => absurd z (by omega)) (H3_passages hX)
    | succ m ih =>
      intro v hv g1
      have g2 : post (if (f 0 v = r ∨ f 1 v = r) ∧ tl f i v + dL s f i g (ac f v r) = dL s f i g r then nI v else nx f (tl f i) (dL s f i g) r m (v + 1)) M := g1
      have a1 := ac_lt hV (show v < s 1 by omega) r
      have d1 := da _ a1
      have d2 := da r hr
      have tv := tl_in hV hi v (by omega)
      refine pk_le (s 1) v (fun z => absurd z (by omega)) (fun _ => sX_endsAt hX hV (by omega) (by omega) (fun z => pb_1 ⟨vp_i (by omega) (by decide), sX_across hX hV (by omega) (by omega) ⟨vp_i (by omega) (by decide), vp_i (by omega) (by decide), ?_⟩⟩) (fun z => pb_0 ?_)) (H3_passages hX)
      · rw [cl_i (show v < 2 ^ 31 by omega), cl_i (show ac f v r < 2 ^ 31 by omega), cl_i (show r < 2 ^ 31 by omega), h1 v (by omega), h2 _ a1, h2 r hr, nI_add, nI_1]
        refine re_ (tl f i v + dL s f i g (ac f v r)) (dL s f i g r) (fun y => ?_) (fun y => ?_)
        · rw [if_neg (fun q => y q.2)] at g2
          exact ih (v + 1) (by omega) g2
        · rw [if_pos ⟨z, y⟩] at g2
          exact g2
      · rw [if_neg (fun q => z q.1)] at g2
        rw [nI_1]
        exact ih (v + 1) (by omega) g2
  exact ⟨s 1 + 1, key (s 1) 0 (by omega) h⟩
theorem sX_leg {i g r N : Nat} {M : Mm} {s : Nat → Nat} {f : Nat → Nat → Nat} {T : Nat} {post : Int32 → Mm → Prop} (hX : HX 3 M s f) (hV : Vt T s f) (hi : i < s 2) (hg : g < s 0) (hr : r < s 0) (hN : N < 100) (h1 : ∀ p, p < s 1 → M.1 61 p = nI (tl f i p)) (h2 : ∀ r, r < s 0 → M.1 62 r = nI (dL s f i g r)) (h : post (pth s f (tl f i) (dL s f i g) N r) M) : w_X9_legFrom (nI r) (nI N) M post := by
  have hs1 := hV.1.2.1
  have hs0 := hV.1.1
  have key : ∀ m j r, j + m = N → r < s 0 → post (pth s f (tl f i) (dL s f i g) m r) M → w_X9_legFrom_15 post (m + 1) (nI N) (nI r) (nx f (tl f i) (dL s f i g) r (s 1) 0) (nI j) M := by
    intro m
    induction m with
    | zero =>
      intro j r hj hr g1
      exact pk_le N j (fun _ => g1) (fun z => absurd z (by omega))
    | succ m ih =>
      intro j r hj hr g1
      have g2 : post (if nx f (tl f i) (dL s f i g) r (s 1) 0 = -1 then -1 else pth s f (tl f i) (dL s f i g) m (ac f (nx f (tl f i) (dL s f i g) r (s 1) 0).toNatClampNeg r)) M := g1
      refine pk_le N j (fun z => absurd z (by omega)) (fun _ => ⟨fun z => ?_, fun z => ?_⟩)
      · rw [if_pos z] at g2
        rw [z]
        exact g2
      · rw [if_neg z] at g2
        rcases nx_or f (tl f i) (dL s f i g) r (s 1) 0 with ⟨e, -⟩ | ⟨p, -, hp, e, -⟩
        · exact absurd e z
        · rw [e, cl_i (by omega)] at g2
          rw [e]
          have a1 := ac_lt hV (show p < s 1 by omega) r
          refine sX_across hX hV (by omega) (by omega) (sX_next hX hV hi hg a1 h1 h2 ?_)
          rw [nI_1]
          exact ih (j + 1) _ (by omega) a1 g2
  unfold w_X9_legFrom
  exact sX_next hX hV hi hg hr h1 h2 ⟨N + 1, key N 0 r (by omega) hr h⟩
def fv (s : Nat → Nat) (f : Nat → Nat → Nat) (i g r : Nat) : Int32 := if dL s f i g r < 1000000 then nI (dL s f i g r) else -1
theorem sX_from {i g r : Nat} {M : Mm} {s : Nat → Nat} {f : Nat → Nat → Nat} {T : Nat} {post : Int32 → Mm → Prop} (hV : Vt T s f) (hi : i < s 2) (hg : g < s 0) (hr : r < s 0) (h2 : ∀ r, r < s 0 → M.1 62 r = nI (dL s f i g r)) (h : post (fv s f i g r) M) : w_X9_stepsFrom (nI r) M post := by
  have hs0 := hV.1.1
  have da := (dL_all hV hi hg).1 r hr
  unfold w_X9_stepsFrom
  refine ⟨vp_i (by omega) (by decide), ?_⟩
  rw [cl_i (by omega), h2 r hr]
  unfold fv at h
  refine pk_le 1000000 (dL s f i g r) (fun z => ?_) (fun z => ?_)
  · rw [if_neg (by omega)] at h
    exact h
  · rw [if_pos (by omega)] at h
    exact h
theorem sM_from {i g r : Nat} {M : Mm} {s : Nat → Nat} {f : Nat → Nat → Nat} {T : Nat} {post : Int32 → Mm → Prop} (hM : HM M s f) (hV : Vt T s f) (hi : i < s 2) (hg : g < s 0) (hr : r < s 0) (h : ∀ M1 : Mm, o14 M M1 → (∀ r, r < s 0 → M1.1 14 r = nI (fx (dL s f i g r))) → post (fv s f i g r) M1) : w_X12_farFrom (nI i) (nI r) (nI g) M post := by
  have hs0 := hV.1.1
  have da := (dL_all hV hi hg).1 r hr
  unfold w_X12_farFrom
  refine sM_layFar hM hV hi hg (fun M1 o1 h1 => ⟨vp_i (by omega) (by decide), ?_⟩)
  have h' := h M1 o1 h1
  rw [cl_i (by omega), h1 r hr]
  unfold fv at h'
  unfold fx
  by_cases c : dL s f i g r < 1000000
  · rw [if_pos c] at h' ⊢
    exact pk_lt (dL s f i g r) 268435456 (fun _ => h') (fun z => absurd z (by omega))
  · rw [if_neg c] at h' ⊢
    exact pk_lt 268435456 268435456 (fun z => absurd z (by omega)) (fun _ => h')
theorem sM_next {i g r : Nat} {M : Mm} {s : Nat → Nat} {f : Nat → Nat → Nat} {T : Nat} {post : Int32 → Mm → Prop} (hM : HM M s f) (hV : Vt T s f) (hi : i < s 2) (hg : g < s 0) (hr : r < s 0) (hrg : r ≠ g) (hf : dL s f i g r < 1000000) (h2 : ∀ r, r < s 0 → M.1 14 r = nI (fx (dL s f i g r))) (h : post (nx f (tl f i) (dL s f i g) r (s 1) 0) M) : w_X12_nextPassage (nI i) (nI r) M post := by
  have hs := hV.1.2.2.1
  have hs1 := hV.1.2.1
  have hs0 := hV.1.1
  have vi := hV.2.2.2.1 i hi
  obtain ⟨da, dR, -⟩ := dL_all hV hi hg
  have key : ∀ m v, v + m = s 1 → (∃ p, v ≤ p ∧ p < s 1 ∧ (f 0 p = r ∨ f 1 p = r) ∧ tl f i p + dL s f i g (ac f p r) = dL s f i g r) → post (nx f (tl f i) (dL s f i g) r m v) M → w_X12_nextPassage_2 post (m + 1) (nI i) (nI r) (nI v) M := by
    intro m
    induction m with
    | zero =>
      intro v hv he g1
      obtain ⟨p, h3, h4, -⟩ := he
      omega
    | succ m ih =>
      intro v hv he g1
      have g2 : post (if (f 0 v = r ∨ f 1 v = r) ∧ tl f i v + dL s f i g (ac f v r) = dL s f i g r then nI v else nx f (tl f i) (dL s f i g) r m (v + 1)) M := g1
      have a1 := ac_lt hV (show v < s 1 by omega) r
      have d1 := da _ a1
      have d2 := da r hr
      have tv := tl_in hV hi v (by omega)
      have vv := hV.2.2.1 v (by omega)
      have next : ¬ ((f 0 v = r ∨ f 1 v = r) ∧ tl f i v + dL s f i g (ac f v r) = dL s f i g r) → w_X12_nextPassage_2 post (m + 1) (nI i) (nI r) (nI (v + 1)) M := by
        intro c
        rw [if_neg c] at g2
        obtain ⟨p, h3, h4, h5⟩ := he
        refine ih (v + 1) (by omega) ⟨p, ?_, h4, h5⟩ g2
        by_cases z : p = v
        · rw [z] at h5
          exact absurd h5 c
        · omega
      show w_X12_endsAt (nI v) (nI r) M (fun r1 M2 => ((r1 = 0) → (w_X12_nextPassage_2 post (m + 1) (nI i) (nI r) (nI v + 1) M2)) ∧ ((¬ r1 = 0) → (w_X12_beyond (nI v) (nI r) M2 (fun r5 M6 => (vp_in r5 5) ∧ (w_X12_alone (nI i) (nI v) M6 (fun r9 M10 => (vp_in (nI r) 5) ∧ (((((M6.1 14 r5.toNatClampNeg) + r9) = (M10.1 14 (nI r).toNatClampNeg)) → (post (nI v) M10)) ∧ ((¬ ((M6.1 14 r5.toNatClampNeg) + r9) = (M10.1 14 (nI r).toNatClampNeg)) → (w_X12_nextPassage_2 post (m + 1) (nI i) (nI r) (nI v + 1) M10)))))))))
      refine sM_endsAt hM hV (by omega) (by omega) (fun z => pb_1 ?_) (fun z => pb_0 ?_)
      · refine sM_bey (by omega) (hM.one (by omega)) (hM.other (by omega)) (by omega) (by omega) ?_
        show (vp_in (nI (ac f v r)) 5) ∧ _
        refine ⟨vp_i (by omega) (by decide), ?_⟩
        refine sM_alone hM hV hi (by omega) (f 5 i) (hM.lie (by omega)) (by omega) ⟨vp_i (by omega) (by decide), ?_⟩
        show ((((M.1 14 (nI (ac f v r)).toNatClampNeg) + nI (tl f i v)) = (M.1 14 (nI r).toNatClampNeg)) → post (nI v) M) ∧ ((¬ ((M.1 14 (nI (ac f v r)).toNatClampNeg) + nI (tl f i v)) = (M.1 14 (nI r).toNatClampNeg)) → w_X12_nextPassage_2 post (m + 1) (nI i) (nI r) (nI v + 1) M)
        have lowv := dR.2.1 v (by omega)
        have af : dL s f i g (ac f v r) < 1000000 := by
          unfold ac at d1 ⊢
          rcases z with z | z
          · rw [z] at lowv
            rw [if_pos z] at d1 ⊢
            omega
          · rw [z] at lowv
            rw [if_neg (by omega)] at d1 ⊢
            omega
        rw [cl_i (show ac f v r < 2 ^ 31 by omega), cl_i (show r < 2 ^ 31 by omega), h2 _ a1, h2 r hr, show fx (dL s f i g (ac f v r)) = dL s f i g (ac f v r) from if_pos af, show fx (dL s f i g r) = dL s f i g r from if_pos hf, nI_add, nI_1]
        refine pk_eq (dL s f i g (ac f v r) + tl f i v) (dL s f i g r) (fun y => ?_) (fun y => next (fun q => y (by omega)))
        rw [if_pos ⟨z, by omega⟩] at g2
        exact g2
      · rw [nI_1]
        exact next (fun q => z q.1)
  obtain ⟨p, o, hp, ho, he, e⟩ := dR.2.2 r hr hrg hf
  have vp := hV.2.2.1 p hp
  refine ⟨s 1 + 1, key (s 1) 0 (by omega) ⟨p, by omega, hp, ?_, ?_⟩ h⟩
  · rcases he with he | he
    · exact Or.inl he.1
    · exact Or.inr he.2
  · unfold ac
    rcases he with he | he
    · rw [if_pos he.1, he.2]
      omega
    · rw [if_neg (by omega), he.1]
      omega
theorem nx_g {T : Nat} {s : Nat → Nat} {f : Nat → Nat → Nat} (hV : Vt T s f) {i g : Nat} (hi : i < s 2) (hg : g < s 0) : nx f (tl f i) (dL s f i g) g (s 1) 0 = -1 := by
  rcases nx_or f (tl f i) (dL s f i g) g (s 1) 0 with ⟨e, -⟩ | ⟨p, -, hp, -, -, e⟩
  · exact e
  · have tv := tl_in hV hi p (by omega)
    rw [(dL_all hV hi hg).2.1.1] at e
    omega
theorem nx_inf {T : Nat} {s : Nat → Nat} {f : Nat → Nat → Nat} (hV : Vt T s f) {i g r : Nat} (hi : i < s 2) (hg : g < s 0) (hr : r < s 0) (hf : ¬ dL s f i g r < 1000000) : nx f (tl f i) (dL s f i g) r (s 1) 0 = -1 := by
  obtain ⟨da, dR, -⟩ := dL_all hV hi hg
  rcases nx_or f (tl f i) (dL s f i g) r (s 1) 0 with ⟨e, -⟩ | ⟨p, -, hp, -, z, e⟩
  · exact e
  · have tv := tl_in hV hi p (by omega)
    have a1 := ac_lt hV (show p < s 1 by omega) r
    have d1 := da _ a1
    have d2 := da r hr
    have lowv := dR.2.1 p (by omega)
    have vv := hV.2.2.1 p (by omega)
    exfalso
    unfold ac at d1 e
    rcases z with z | z
    · rw [if_pos z] at d1 e
      rw [z] at lowv
      omega
    · rw [if_neg (by omega)] at d1 e
      rw [z] at lowv
      omega
theorem sM_path {i g : Nat} {M : Mm} {s : Nat → Nat} {f : Nat → Nat → Nat} {T : Nat} {post : Int32 → Mm → Prop} (hM : HM M s f) (hV : Vt T s f) (hi : i < s 2) (hg : g < s 0) (h2 : ∀ r, r < s 0 → M.1 14 r = nI (fx (dL s f i g r))) (N : Nat) (hN : N < 100) : ∀ k j r (x : Int32), j + k = N → r < s 0 → dL s f i g r < 1000000 → post (pth s f (tl f i) (dL s f i g) k r) M → w_X12_farNow_33 post (k + 2) (nI i) (nI g) (nI (10 + N)) (nI r) x (nI (10 + j)) M := by
  have hs := hV.1.2.2.1
  have hs1 := hV.1.2.1
  have hs0 := hV.1.1
  obtain ⟨da, dR, -⟩ := dL_all hV hi hg
  intro k
  induction k with
  | zero =>
    intro j r x hj hr hf g1
    refine pk_lt (10 + N) (10 + j) (fun z => absurd z (by omega)) (fun _ => re_ r g (fun z => sM_next hM hV hi hg hr z hf h2 ?_) (fun z => ?_))
    · rcases nx_or f (tl f i) (dL s f i g) r (s 1) 0 with ⟨e, hno⟩ | ⟨p, -, hp, e, he, h5⟩
      · have g2 : post (nx f (tl f i) (dL s f i g) r (s 1) 0) M := g1
        rw [e] at g2 ⊢
        unfold w_X12_farNow_57
        refine pn_t rfl ?_
        rw [nI_1]
        exact pk_lt (10 + N) (10 + j + 1) (fun _ => g2) (fun z => absurd z (by omega))
      · have g2 : post (nx f (tl f i) (dL s f i g) r (s 1) 0) M := g1
        rw [e] at g2 ⊢
        unfold w_X12_farNow_57
        have vp := hV.2.2.1 p (by omega)
        refine pn_f (ne_m1 (by omega)) (sM_bey (by omega) (hM.one (by omega)) (hM.other (by omega)) (by omega) (by omega) ?_)
        rw [nI_1]
        exact pk_lt (10 + N) (10 + j + 1) (fun _ => g2) (fun z => absurd z (by omega))
    · have g2 : post (nx f (tl f i) (dL s f i g) r (s 1) 0) M := g1
      rw [z, nx_g hV hi hg] at g2
      unfold w_X12_farNow_57
      refine pn_t rfl ?_
      rw [nI_1]
      exact pk_lt (10 + N) (10 + j + 1) (fun _ => g2) (fun z => absurd z (by omega))
  | succ k ih =>
    intro j r x hj hr hf g1
    have g2 : post (if nx f (tl f i) (dL s f i g) r (s 1) 0 = -1 then -1 else pth s f (tl f i) (dL s f i g) k (ac f (nx f (tl f i) (dL s f i g) r (s 1) 0).toNatClampNeg r)) M := g1
    refine pk_lt (10 + N) (10 + j) (fun z => absurd z (by omega)) (fun _ => re_ r g (fun z => sM_next hM hV hi hg hr z hf h2 ?_) (fun z => ?_))
    · rcases nx_or f (tl f i) (dL s f i g) r (s 1) 0 with ⟨e, hno⟩ | ⟨p, -, hp, e, he, h5⟩
      · exfalso
        obtain ⟨p, o, hp, ho, he, e5⟩ := dR.2.2 r hr z hf
        have vp := hV.2.2.1 p hp
        refine hno p (by omega) (by omega) ⟨?_, ?_⟩
        · rcases he with he | he
          · exact Or.inl he.1
          · exact Or.inr he.2
        · unfold ac
          rcases he with he | he
          · rw [if_pos he.1, he.2]
            omega
          · rw [if_neg (by omega), he.1]
            omega
      · rw [e, if_neg (ne_m1 (by omega)), cl_i (by omega)] at g2
        rw [e]
        unfold w_X12_farNow_57
        have vp := hV.2.2.1 p (by omega)
        have a1 := ac_lt hV (show p < s 1 by omega) r
        refine pn_f (ne_m1 (by omega)) (sM_bey (by omega) (hM.one (by omega)) (hM.other (by omega)) (by omega) (by omega) ?_)
        rw [nI_1]
        exact ih (j + 1) (ac f p r) _ (by omega) a1 (by omega) g2
    · have ng := nx_g hV hi hg
      rw [z, if_pos ng] at g2
      unfold w_X12_farNow_57
      refine pn_t rfl ?_
      rw [nI_1]
      refine ih (j + 1) r _ (by omega) hr hf ?_
      rw [z, pth_none ng]
      exact g2
/-- far, asked as farNow is: how many steps (0), or the so-manieth passage -/
theorem sM_far0 {i g r : Nat} {M : Mm} {s : Nat → Nat} {f : Nat → Nat → Nat} {T : Nat} {post : Int32 → Mm → Prop} (hM : HM M s f) (hV : Vt T s f) (hi : i < s 2) (hg : g < s 0) (hr : r < s 0) (h : ∀ M1 : Mm, o14 M M1 → post (fv s f i g r) M1) : w_X12_farNow (nI i) (nI r) (nI g) 0 M post := by
  have da := (dL_all hV hi hg).1 r hr
  unfold w_X12_farNow
  refine sM_from hM hV hi hg hr (fun M1 o1 h1 => ?_)
  have h' := h M1 o1
  exact ⟨fun _ => h', fun _ => pn_t rfl h'⟩
theorem sM_farN {i g r N : Nat} {M : Mm} {s : Nat → Nat} {f : Nat → Nat → Nat} {T : Nat} {post : Int32 → Mm → Prop} (hM : HM M s f) (hV : Vt T s f) (hi : i < s 2) (hg : g < s 0) (hr : r < s 0) (hN : N < 100) (h : ∀ M1 : Mm, o14 M M1 → post (pth s f (tl f i) (dL s f i g) N r) M1) : w_X12_farNow (nI i) (nI r) (nI g) (nI (10 + N)) M post := by
  have da := (dL_all hV hi hg).1 r hr
  unfold w_X12_farNow
  refine sM_from hM hV hi hg hr (fun M1 o1 h1 => ?_)
  have h' := h M1 o1
  by_cases c : dL s f i g r < 1000000
  · have e : fv s f i g r = nI (dL s f i g r) := if_pos c
    rw [e]
    refine pb_f (ne_m1 (by omega)) (pn_f (nI_ne0 (by omega) (by omega)) ⟨N + 2, ?_⟩)
    exact sM_path (o1.hm hM) hV hi hg h1 N hN N 0 r (-1) (by omega) hr c h'
  · have e : fv s f i g r = -1 := if_neg c
    rw [e]
    refine pb_t rfl ?_
    rw [pth_none (nx_inf hV hi hg hr c)] at h'
    exact h'
theorem sM_rooms3 {x1 x2 x3 : Int32} {M : Mm} {s : Nat → Nat} {f : Nat → Nat → Nat} {T : Nat} {A K : Mm → Prop} (hM : HM M s f) (hV : Vt T s f) (h1 : isIdx (s 2) x1 → isIdx (s 0) x2 → isIdx (s 0) x3 → K M) (h0 : ¬ (isIdx (s 2) x1 ∧ isIdx (s 0) x2 ∧ isIdx (s 0) x3) → A M) : w_X12_isPerson x1 M (fun r4 M5 => ((r4 = 0) → A M5) ∧ ((¬ r4 = 0) → w_X12_isRoom x2 M5 (fun r8 M9 => ((r8 = 0) → A M9) ∧ ((¬ r8 = 0) → w_X12_isRoom x3 M9 (fun r12 M13 => ((¬ r12 = 0) → K M13) ∧ ((r12 = 0) → A M13)))))) := by
  have hs := hV.1.2.2.1
  have hs0 := hV.1.1
  exact sM_isPerson hM.people (by omega) (fun a1 => pb_1 (sM_isRoom hM.rooms (by omega) (fun a2 => pb_1 (sM_isRoom hM.rooms (by omega) (fun a3 => pn_1 (h1 a1 a2 a3)) (fun a3 => pn_0 (h0 (fun q => a3 q.2.2))))) (fun a2 => pb_0 (h0 (fun q => a2 q.2.1))))) (fun a1 => pb_0 (h0 (fun q => a1 q.1)))
theorem oq.co {M M1 : Mm} (h : oq M M1) : coX M M1 := fun n hn => h n (by omega) (by omega)
theorem o14.co {M M1 : Mm} (h : o14 M M1) : coM M M1 := ⟨fun j _ _ _ => by rw [h.1 0 (by decide)], fun n hn => h.1 n (by omega)⟩
theorem sim_far (k : Nat) (MX MM : Mm) (x1 x2 x3 x4 : Int32) (hk : k < 512) (hR : Rel k MX MM) : w_X11_far x1 x2 x3 x4 MX (fun r MX1 => w_X12_far x1 x2 x3 x4 MM (fun r1 MM1 => r = r1 ∧ Rel (k + 1) MX1 MM1)) := by
  have hR1 := hR.up
  obtain ⟨s, f, hX, hM, v, hR⟩ := hR.el
  have hs := v.1.2.2.1
  have hs0 := v.1.1
  unfold w_X11_far
  have bad : ¬ (isIdx (s 2) x1 ∧ isIdx (s 0) x2 ∧ isIdx (s 0) x3) → w_X12_far x1 x2 x3 x4 MM (fun r1 MM1 => (-101 : Int32) = r1 ∧ Rel (k + 1) MX MM1) := by
    intro q
    unfold w_X12_far
    exact sM_rooms3 hM v (fun a b c => absurd ⟨a, b, c⟩ q) (fun _ => ⟨rfl, hR1⟩)
  refine sX_hasPerson hX.people (by omega) (fun a1 => pb_1 (sX_hasRoom hX.rooms (by omega) (fun a2 => pb_1 (sX_hasRoom hX.rooms (by omega) (fun a3 => pn_1 ?_) (fun a3 => pn_0 (bad (fun q => a3 q.2.2))))) (fun a2 => pb_0 (bad (fun q => a2 q.2.1))))) (fun a1 => pb_0 (bad (fun q => a1 q.1)))
  have b1 := a1
  have b2 := a2
  have b3 := a3
  obtain ⟨i, hi, rfl⟩ := a1
  obtain ⟨r, hr, rfl⟩ := a2
  obtain ⟨g, hg, rfl⟩ := a3
  have out : ¬ x4 = 0 → (x4 < 10 ∨ 13 < x4) → w_X12_far (nI i) (nI r) (nI g) x4 MM (fun r1 MM1 => (-102 : Int32) = r1 ∧ Rel (k + 1) MX MM1) := by
    intro z q
    unfold w_X12_far
    refine sM_rooms3 hM v (fun _ _ _ => pb_f z (sM_within (fun q1 q2 => ?_) (fun _ => pb_0 ⟨rfl, hR1⟩))) (fun q => absurd ⟨b1, b2, b3⟩ q)
    rcases q with q | q
    · exact absurd q q1
    · exact absurd q q2
  refine ⟨fun z => ?_, fun z => ⟨fun z1 => out z (Or.inl z1), fun z1 => ⟨fun z2 => ?_, fun z2 => ?_⟩⟩⟩
  · subst z
    unfold w_X11_far_58
    refine sX_measure hX v hi hg (fun M1 o1 h1 h2 => pn_t rfl (sX_from v hi hg hr h2 ?_))
    unfold w_X12_far
    refine sM_rooms3 hM v (fun _ _ _ => pb_t rfl ?_) (fun q => absurd ⟨b1, b2, b3⟩ q)
    unfold w_X12_far_44
    exact sM_far0 hM v hi hg hr (fun M2 o2 => ⟨rfl, hR1.fr o1.co o2.co⟩)
  · obtain ⟨c, c1, c2, rfl⟩ := inR (lo := 10) (hi := 13) (by decide) z1 z2 (by decide)
    obtain ⟨N, rfl⟩ : ∃ N, c = 10 + N := ⟨c - 10, by omega⟩
    unfold w_X11_far_58
    refine sX_measure hX v hi hg (fun M1 o1 h1 h2 => pn_f z ?_)
    have eN : nI (10 + N) - 10 = nI N := by
      rw [show (10 : Int32) = nI 10 from rfl, pk_sub (by omega)]
      exact congrArg nI (by omega)
    rw [eN]
    refine sX_leg (o1.hx hX) v hi hg hr (by omega) h1 h2 ?_
    unfold w_X12_far
    refine sM_rooms3 hM v (fun _ _ _ => pb_f z (sM_within (fun _ _ => pb_1 ?_) (fun q => ?_))) (fun q => absurd ⟨b1, b2, b3⟩ q)
    · unfold w_X12_far_44
      exact sM_farN hM v hi hg hr (by omega) (fun M2 o2 => ⟨rfl, hR1.fr o1.co o2.co⟩)
    · rcases q with q | q
      · exact absurd q z1
      · exact absurd q (le_nlt.mp z2)
  · exact out z (Or.inr (Decidable.not_not.mp (fun q => z2 (le_nlt.mpr q))))
