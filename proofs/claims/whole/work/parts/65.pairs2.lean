/-! ===== pairs: the rows of the two sides ===== -/
def stq (s : Nat → Nat) (f : Nat → Nat → Nat) (p u w : Nat) : Nat := if u < s 2 ∧ w ≤ s 2 then stp f u p w (f 5 u) else 0
theorem stq_in {s : Nat → Nat} {f : Nat → Nat → Nat} {p u w : Nat} (h1 : u < s 2) (h2 : w ≤ s 2) : stq s f p u w = stp f u p w (f 5 u) := if_pos ⟨h1, h2⟩
theorem stq_le {T : Nat} {s : Nat → Nat} {f : Nat → Nat → Nat} (v : Vt T s f) {p : Nat} (hp : p < s 1) (u w : Nat) : stq s f p u w ≤ 108 := by
  unfold stq
  by_cases z : u < s 2 ∧ w ≤ s 2
  · rw [if_pos z]
    have vu := v.2.2.2.1 u z.1
    exact stp_le v z.1 hp z.2 (by omega)
  · rw [if_neg z]
    omega
theorem stq_sym {s : Nat → Nat} {f : Nat → Nat → Nat} {p : Nat} : ∀ u q, u < s 2 → q < s 2 → u ≠ q → stq s f p u (q + 1) = stq s f p q (u + 1) := by
  intro u q hu hq _
  rw [stq_in hu (by omega), stq_in hq (by omega)]
  unfold stp
  rw [if_neg (by omega), if_neg (by omega), show q + 1 - 1 = q by omega, show u + 1 - 1 = u by omega]
  omega
def PX (s : Nat → Nat) (st : Nat → Nat → Nat) (v : Nat) (a : Nat → Nat) (b : Nat → Bool) (c : Pg) (M : Mm) : Prop := (∀ u, u < s 2 → M.1 (73 + u) u = nI (st u 0)) ∧ (∀ u q, u < q → q < s 2 → M.1 (73 + u) q = nI (st u (q + 1))) ∧ M.1 71 3 = nI (s 2) ∧ M.1 71 4 = nI c.1 ∧ (∃ h, c.2.1 = 2 * h ∧ h ≤ 1000000 ∧ M.1 71 5 = nI h) ∧ c.1 ≤ 1000000 ∧ (c.1 < 1000000 → ∀ q, q < s 2 → M.1 79 q = nI (c.2.2 q) - 1) ∧ ∀ q, q < s 2 → (q < v ∨ b q = true) → M.1 78 q = nI (a q) - 1
theorem sX_better {mo pc h : Nat} {c : Pg} {M : Mm} {post : Int32 → Mm → Prop} (e1 : M.1 71 4 = nI c.1) (e2 : M.1 71 5 = nI h) (e3 : c.2.1 = 2 * h) (h4 : c.1 ≤ 1000000) (h5 : h ≤ 1000000) (hm : mo ≤ 108) (hp : pc ≤ 100) (h1 : bt mo (2 * pc) c → post 1 M) (h0 : ¬ bt mo (2 * pc) c → post 0 M) : w_X6_isBetter (nI mo) (nI pc) M post := by
  unfold w_X6_isBetter
  rw [e1, e2]
  unfold bt at h1 h0
  refine pk_lt mo c.1 (fun z => h1 (Or.inl z)) (fun z => re_ mo c.1 (fun y => h0 (by omega)) (fun y => pk_le h pc (fun w => h0 (by omega)) (fun w => h1 (Or.inr ⟨y, by omega⟩))))
theorem max_j {a b : Nat} (ha : a < 2 ^ 31) (hb : b < 2 ^ 31) : (if nI a < nI b then nI b else nI a) = nI (max a b) := max_i ha hb
theorem sX_pd {s : Nat → Nat} {f : Nat → Nat → Nat} {T : Nat} {st : Nat → Nat → Nat} (hV : Vt T s f) (hst : ∀ u w, st u w ≤ 108) (k : Nat) : ∀ (fu v : Nat) (a : Nat → Nat) (b : Nat → Bool) (x : Int32) (mo pc : Nat) (c : Pg) (M : Mm) (post : Mm → Prop), k < fu → v + k = s 2 → MB x b → mo ≤ 108 → pc ≤ v → PX s st v a b c M → (∀ M1 : Mm, oW M M1 → PX s st v a b (PD (s 2) st k v a b mo (2 * pc) c) M1 → post M1) → w_X6_arrangeFrom fu (nI v) x (nI mo) (nI pc) M post := by
  have hs := hV.1.2.2.1
  induction k with
  | zero =>
    intro fu v a b x mo pc c M post hf hv hx hm hpc hS hp
    obtain ⟨fu, rfl⟩ : ∃ n, fu = n + 1 := ⟨fu - 1, by omega⟩
    obtain ⟨S1, S2, S3, S4, ⟨h, H1, H2, H3⟩, S6, S7, S8⟩ := hS
    have e : PD (s 2) st 0 v a b mo (2 * pc) c = if btb mo (2 * pc) c = true then (mo, 2 * pc, a) else c := rfl
    unfold w_X6_arrangeFrom
    refine sX_better S4 H3 H1 S6 H2 hm (by omega) (fun z => pn_1 ?_) (fun z => pn_0 ?_)
    · rw [e, if_pos (btb_t.mpr z)] at hp
      refine pk_le (s 2) v (fun _ => ?_) (fun y => absurd y (by omega)) S3
      unfold w_X6_arrangeFrom_24 w_X6_keep
      intro M1 e1 M3 e3 M5 e5
      have z0 : (0 : Int32).toNatClampNeg = 0 := by decide
      have z5 : (5 : Int32).toNatClampNeg = 5 := by decide
      rw [z0, z5] at e5
      have o : ∀ n, n ≠ 71 → n ≠ 79 → M5.1 n = M.1 n := fun n h1 h2 => by rw [cpo e5 h2, cpo e3 h1, cpo e1 h1]
      refine hp M5 (fun n hn => o n (by omega) (by omega)) ⟨fun u hu => by rw [o _ (by omega) (by omega)]; exact S1 u hu, fun u q h1 h2 => by rw [o _ (by omega) (by omega)]; exact S2 u q h1 h2, ?_, ?_, ⟨pc, rfl, by omega, ?_⟩, by show mo ≤ 1000000; omega, fun _ q hq => ?_, fun q hq hb => ?_⟩
      · rw [cpo e5 (by decide), e3, wI_same, pk_un (by decide), e1, wI_same, pk_un (by decide)]
        exact S3
      · rw [cpo e5 (by decide), e3, wI_same, pk_un (by decide), e1, wI_same, pk_us]
      · rw [cpo e5 (by decide), e3, wI_same, pk_us]
      · rw [e5, wI_same, pk_cpy_in (by omega) (by omega), cpo e3 (by decide), cpo e1 (by decide), show 0 + (q - 0) = q by omega]
        exact S8 q hq (by omega)
      · rw [o 78 (by decide) (by decide)]
        exact S8 q hq hb
    · rw [e, if_neg (by rw [btb_f.mpr z]; decide)] at hp
      exact hp M (fun _ _ => rfl) ⟨S1, S2, S3, S4, ⟨h, H1, H2, H3⟩, S6, S7, S8⟩
  | succ k ih =>
    intro fu v a b x mo pc c M post hf hv hx hm hpc hS hp
    obtain ⟨fu, rfl⟩ : ∃ n, fu = n + 1 := ⟨fu - 1, by omega⟩
    have hS0 := hS
    obtain ⟨S1, S2, S3, S4, ⟨h, H1, H2, H3⟩, S6, S7, S8⟩ := hS
    obtain ⟨mm, mm1, mm2, mb⟩ := hx
    have hx : MB x b := ⟨mm, mm1, mm2, mb⟩
    have e : PD (s 2) st (k + 1) v a b mo (2 * pc) c = if btb mo (2 * pc) c = true then (if b v = true then PD (s 2) st k (v + 1) a b mo (2 * pc) c else fd (fun o c => if b o = true then c else PD (s 2) st k (v + 1) (upN (upN a v (o + 1)) o (v + 1)) (bU b o) (max mo (st v (o + 1))) (2 * pc + 2) c) (s 2 - (v + 1)) (v + 1) (PD (s 2) st k (v + 1) (upN a v 0) b (max mo (st v 0)) (2 * pc) c)) else c := rfl
    unfold w_X6_arrangeFrom
    refine sX_better S4 H3 H1 S6 H2 hm (by omega) (fun z => pn_1 ?_) (fun z => pn_0 ?_)
    · rw [e, if_pos (btb_t.mpr z)] at hp
      have dv : tS x v = decide (¬ ((x >>> (nI v &&& 31)) &&& (1 : Int32)) = 0) := rfl
      have bv := mb v (by omega)
      refine pk_le (s 2) v (fun y => absurd y (by omega)) (fun _ => pk_lt v 5 (fun _ => ⟨fun y => ?_, fun y => ?_⟩) (fun y => absurd y (by omega))) S3
      · -- not placed yet
        have b0 : b v = false := by rw [← bv, dv]; simp [y]
        rw [if_neg (by rw [b0]; decide)] at hp
        refine ⟨vp_i (by omega) (by decide), fun M23 e23 => ?_⟩
        rw [cl_i (show v < 2 ^ 31 by omega)] at e23
        rw [cl_i (show v < 2 ^ 31 by omega), cpo e23 (show 73 + v ≠ 78 by omega), S1 v (by omega)]
        have sv := hst v 0
        rw [max_i (by omega) (by omega), nI_1]
        have o23 : oW M M23 := fun n hn => cpo e23 (by omega)
        refine ih fu (v + 1) (upN a v 0) b x (max mo (st v 0)) pc c M23 _ (by omega) (by omega) hx (by omega) (by omega) ⟨fun u hu => by rw [cpo e23 (by omega)]; exact S1 u hu, fun u q h1 h2 => by rw [cpo e23 (by omega)]; exact S2 u q h1 h2, by rw [cpo e23 (by decide)]; exact S3, by rw [cpo e23 (by decide)]; exact S4, ⟨h, H1, H2, by rw [cpo e23 (by decide)]; exact H3⟩, S6, fun w q hq => by rw [cpo e23 (by decide)]; exact S7 w q hq, fun q hq hb => ?_⟩ (fun M26 o26 hS26 => ?_)
        · rw [e23, wI_same]
          by_cases w : q = v
          · rw [w, pk_us, upN_s]
            exact nI_m1.symm
          · rw [pk_un w, upN_n w]
            refine S8 q hq ?_
            rcases hb with hb | hb
            · exact Or.inl (by omega)
            · exact Or.inr hb
        · have lp : ∀ m o (d : Pg) (M1 : Mm), o + m = s 2 → v + 1 ≤ o → oW M M1 → PX s st v a b d M1 → (∀ M2 : Mm, oW M M2 → PX s st v a b (fd (fun o c => if b o = true then c else PD (s 2) st k (v + 1) (upN (upN a v (o + 1)) o (v + 1)) (bU b o) (max mo (st v (o + 1))) (2 * pc + 2) c) m o d) M2 → post M2) → w_X6_arrangeFrom_86 (w_X6_arrangeFrom fu) post (m + 1) (nI v) x (nI mo) (nI pc) (nI o) M1 := by
            intro m
            induction m with
            | zero =>
              intro o d M1 ho hvo o1 hS1 g
              exact pk_le (s 2) o (fun _ => g M1 o1 hS1) (fun y => absurd y (by omega)) hS1.2.2.1
            | succ m ihm =>
              intro o d M1 ho hvo o1 hS1 g
              have g2 : ∀ M2 : Mm, oW M M2 → PX s st v a b (fd (fun o c => if b o = true then c else PD (s 2) st k (v + 1) (upN (upN a v (o + 1)) o (v + 1)) (bU b o) (max mo (st v (o + 1))) (2 * pc + 2) c) m (o + 1) (if b o = true then d else PD (s 2) st k (v + 1) (upN (upN a v (o + 1)) o (v + 1)) (bU b o) (max mo (st v (o + 1))) (2 * pc + 2) d)) M2 → post M2 := g
              have dd : tS x o = decide (¬ ((x >>> (nI o &&& 31)) &&& (1 : Int32)) = 0) := rfl
              have bo := mb o (by omega)
              refine pk_le (s 2) o (fun y => absurd y (by omega)) (fun _ => ⟨fun y => ?_, fun y => ?_⟩) hS1.2.2.1
              · have d1 : b o = true := by rw [← bo, dd]; simp [y]
                rw [if_pos d1] at g2
                rw [nI_1]
                exact ihm (o + 1) d M1 (by omega) (by omega) o1 hS1 g2
              · have d0 : b o = false := by rw [← bo, dd]; simp [y]
                rw [if_neg (by rw [d0]; decide)] at g2
                obtain ⟨T1, T2, T3, T4, ⟨h', G1, G2, G3⟩, T6, T7, T8⟩ := hS1
                refine ⟨vp_i (by omega) (by decide), fun M7 e7 => ⟨vp_i (by omega) (by decide), fun M10 e10 => ?_⟩⟩
                rw [cl_i (show v < 2 ^ 31 by omega)] at e7
                rw [cl_i (show o < 2 ^ 31 by omega)] at e10
                have oo : ∀ n, n ≠ 78 → M10.1 n = M1.1 n := fun n hn => by rw [cpo e10 hn, cpo e7 hn]
                rw [cl_i (show v < 2 ^ 31 by omega), cl_i (show o < 2 ^ 31 by omega), oo _ (show 73 + v ≠ 78 by omega), T2 v o (by omega) (by omega)]
                have so := hst v (o + 1)
                rw [max_i (by omega) (by omega), nI_1, nI_1]
                have o10 : oW M1 M10 := fun n hn => oo n (by omega)
                refine ih fu (v + 1) (upN (upN a v (o + 1)) o (v + 1)) (bU b o) (aX x o) (max mo (st v (o + 1))) (pc + 1) d M10 _ (by omega) (by omega) (MB_add hx (by omega)) (by omega) (by omega) ⟨fun u hu => by rw [oo _ (by omega)]; exact T1 u hu, fun u q h1 h2 => by rw [oo _ (by omega)]; exact T2 u q h1 h2, by rw [oo _ (by decide)]; exact T3, by rw [oo _ (by decide)]; exact T4, ⟨h', G1, G2, by rw [oo _ (by decide)]; exact G3⟩, T6, fun w q hq => by rw [oo _ (by decide)]; exact T7 w q hq, fun q hq hb => ?_⟩ (fun M13 o13 hS13 => ?_)
                · rw [e10, wI_same]
                  by_cases w : q = o
                  · rw [w, pk_us, upN_s, nI_pred]
                  · rw [pk_un w, upN_n w, e7, wI_same]
                    by_cases w2 : q = v
                    · rw [w2, pk_us, upN_s, nI_pred]
                    · rw [pk_un w2, upN_n w2]
                      refine T8 q hq ?_
                      unfold bU at hb
                      rw [decide_eq_false w, Bool.or_false] at hb
                      rcases hb with hb | hb
                      · exact Or.inl (by omega)
                      · exact Or.inr hb
                · obtain ⟨U1, U2, U3, U4, U5, U6, U7, U8⟩ := hS13
                  rw [nI_1]
                  refine ihm (o + 1) _ M13 (by omega) (by omega) ((o1.tr o10).tr o13) ⟨U1, U2, U3, U4, U5, U6, U7, fun q hq hb => ?_⟩ g2
                  have q1 : q ≠ v := fun w => by
                    rw [w] at hb
                    rcases hb with hb | hb
                    · omega
                    · rw [b0] at hb; exact absurd hb (by decide)
                  have q2 : q ≠ o := fun w => by
                    rw [w] at hb
                    rcases hb with hb | hb
                    · omega
                    · rw [d0] at hb; exact absurd hb (by decide)
                  rw [U8 q hq (by
                    rcases hb with hb | hb
                    · exact Or.inl (by omega)
                    · refine Or.inr ?_
                      unfold bU
                      rw [hb]
                      rfl), upN_n q2, upN_n q1]
          refine ⟨s 2 - (v + 1) + 1, ?_⟩
          obtain ⟨U1, U2, U3, U4, U5, U6, U7, U8⟩ := hS26
          refine lp (s 2 - (v + 1)) (v + 1) _ M26 (by omega) (Nat.le_refl _) (o23.tr o26) ⟨U1, U2, U3, U4, U5, U6, U7, fun q hq hb => ?_⟩ hp
          have q1 : q ≠ v := fun w => by
            rw [w] at hb
            rcases hb with hb | hb
            · omega
            · rw [b0] at hb; exact absurd hb (by decide)
          rw [U8 q hq (by
            rcases hb with hb | hb
            · exact Or.inl (by omega)
            · exact Or.inr hb), upN_n q1]
      · have b1 : b v = true := by rw [← bv, dv]; simp [y]
        rw [if_pos b1] at hp
        rw [nI_1]
        refine ih fu (v + 1) a b x mo pc c M _ (by omega) (by omega) hx hm (by omega) ⟨S1, S2, S3, S4, ⟨h, H1, H2, H3⟩, S6, S7, fun q hq hb => ?_⟩ (fun M1 o1 hS1 => ?_)
        · refine S8 q hq ?_
          by_cases w : q = v
          · exact Or.inr (by rw [w]; exact b1)
          · rcases hb with hb | hb
            · exact Or.inl (by omega)
            · exact Or.inr hb
        · obtain ⟨U1, U2, U3, U4, U5, U6, U7, U8⟩ := hS1
          exact hp M1 o1 ⟨U1, U2, U3, U4, U5, U6, U7, fun q hq hb => U8 q hq (by
            rcases hb with hb | hb
            · exact Or.inl (by omega)
            · exact Or.inr hb)⟩
    · rw [e, if_neg (by rw [btb_f.mpr z]; decide)] at hp
      exact hp M (fun _ _ => rfl) hS0
theorem sX_stepsOf1 {b i p q : Nat} {M : Mm} {s : Nat → Nat} {f : Nat → Nat → Nat} {post : Int32 → Mm → Prop} {T : Nat} (hb : isH b) (hX : HX b M s f) (hV : Vt T s f) (hi : i < s 2) (hp : p < s 1) (hq : q < s 2) (h : post (nI (stp f i p (q + 1) (f 5 i))) M) : w_X2_stepsOf b (nI i) (nI p) (nI q) M post := by
  have g := sX_stepsOf hb hX hV hi hp (show q + 1 ≤ s 2 by omega) h
  rw [nI_pred] at g
  exact g
def pgF (s : Nat → Nat) (f : Nat → Nat → Nat) (p : Nat) : Pg := PE (s 2) (stq s f p) (s 2) 0 (fun _ => 0) (fun _ => false) 0 0 (1000000, 2000000, fun _ => 0)
theorem sX_arrange {p : Nat} {M : Mm} {s : Nat → Nat} {f : Nat → Nat → Nat} {T : Nat} {post : Mm → Prop} (hX : HX 3 M s f) (hV : Vt T s f) (hp : p < s 1) (h : ∀ M1 : Mm, oW M M1 → M1.1 71 4 = nI (pgF s f p).1 → (∀ q, q < s 2 → M1.1 79 q = nI ((pgF s f p).2.2 q) - 1) → post M1) : w_X6_arrange (nI p) M post := by
  have hs := hV.1.2.2.1
  have bd : (pgF s f p).1 ≤ 108 := PE_bd _ _ (stq_le hV hp) _ _ _ _ _ _ _ (by omega)
  unfold w_X6_arrange
  intro M23 e23
  rw [H3_people hX] at e23
  have o23 : oW M M23 := fun n hn => cpo e23 (by omega)
  have p23 : M23.1 71 3 = nI (s 2) := by rw [e23, wI_same, pk_us]
  have L37 : ∀ (k10 : Int32 → Int32 → Mm → Prop) (u : Nat) (hu : u < s 2) (hk : ∀ M1 : Mm, oW M M1 → M1.1 71 3 = nI (s 2) → (∀ u', u' < u + 1 → M1.1 (73 + u') u' = nI (stq s f p u' 0) ∧ ∀ q, u' < q → q < s 2 → M1.1 (73 + u') q = nI (stq s f p u' (q + 1))) → k10 (nI p) (nI u + 1) M1), ∀ m q (M1 : Mm), q + m = s 2 → u < q → oW M M1 → M1.1 71 3 = nI (s 2) → (∀ u', u' < u → M1.1 (73 + u') u' = nI (stq s f p u' 0) ∧ ∀ q, u' < q → q < s 2 → M1.1 (73 + u') q = nI (stq s f p u' (q + 1))) → M1.1 (73 + u) u = nI (stq s f p u 0) → (∀ q', u < q' → q' < q → M1.1 (73 + u) q' = nI (stq s f p u (q' + 1))) → w_X6_arrange_37 post k10 (m + 1) (nI p) (nI u) (nI q) M1 := by
    intro k10 u hu hk m
    induction m with
    | zero =>
      intro q M1 hq huq o1 g1 g2 g3 g4
      obtain rfl : q = s 2 := by omega
      refine pk_le (s 2) (s 2) (fun _ => hk M1 o1 g1 (fun u' hu' => ?_)) (fun z => absurd z (by omega)) g1
      by_cases w : u' = u
      · rw [w]
        exact ⟨g3, g4⟩
      · exact g2 u' (by omega)
    | succ m ih =>
      intro q M1 hq huq o1 g1 g2 g3 g4
      refine pk_le (s 2) q (fun z => absurd z (by omega)) (fun _ => ⟨vp_i (by omega) (by decide), ?_⟩) g1
      refine sX_stepsOf1 (by decide) (o1.hx hX) hV hu hp (by omega) ⟨vp_i (by omega) (by decide), fun M7 e7 => ?_⟩
      rw [cl_i (show u < 2 ^ 31 by omega), cl_i (show q < 2 ^ 31 by omega)] at e7
      rw [nI_1]
      refine ih (q + 1) M7 (by omega) (by omega) (fun n hn => by rw [cpo e7 (by omega)]; exact o1 n hn) (by rw [cpo e7 (by omega)]; exact g1) (fun u' hu' => ?_) ?_ (fun q' h1 h2 => ?_)
      · rw [cpo e7 (by omega)]
        exact g2 u' hu'
      · rw [e7, wI_same, pk_un (by omega)]
        exact g3
      · rw [e7, wI_same]
        by_cases w : q' = q
        · rw [w, pk_us, stq_in hu (by omega)]
        · rw [pk_un w]
          exact g4 q' h1 (by omega)
  have L10 : ∀ m u (M1 : Mm), u + m = s 2 → oW M M1 → M1.1 71 3 = nI (s 2) → (∀ u', u' < u → M1.1 (73 + u') u' = nI (stq s f p u' 0) ∧ ∀ q, u' < q → q < s 2 → M1.1 (73 + u') q = nI (stq s f p u' (q + 1))) → w_X6_arrange_10 post (m + 1) (nI p) (nI u) M1 := by
    intro m
    induction m with
    | zero =>
      intro u M1 hu o1 g1 g2
      obtain rfl : u = s 2 := by omega
      refine pk_le (s 2) (s 2) (fun _ M10 e10 M12 e12 => ?_) (fun z => absurd z (by omega)) g1
      have o12 : ∀ n, n ≠ 71 → M12.1 n = M1.1 n := fun n hn => by rw [cpo e12 hn, cpo e10 hn]
      refine sX_pd hV (stq_le hV hp) (s 2) 8 0 (fun _ => 0) (fun _ => false) 0 0 0 (1000000, 2000000, fun _ => 0) M12 _ (by omega) (by omega) MB_0 (by omega) (by omega) ⟨fun u hu => by rw [o12 _ (by omega)]; exact (g2 u hu).1, fun u q h1 h2 => by rw [o12 _ (by omega)]; exact (g2 u (by omega)).2 q h1 h2, ?_, ?_, ⟨1000000, rfl, Nat.le_refl _, ?_⟩, Nat.le_refl _, fun z => absurd z (by decide), fun q hq hb => ?_⟩ (fun M3 o3 h3 => ?_)
      · rw [e12, wI_same, pk_un (by decide), e10, wI_same, pk_un (by decide)]
        exact g1
      · rw [e12, wI_same, pk_un (by decide), e10, wI_same, pk_us]
        rfl
      · rw [e12, wI_same, pk_us]
        rfl
      · rcases hb with hb | hb
        · omega
        · exact absurd hb Bool.false_ne_true
      · rw [PD_PE] at h3
        have h3' : PX s (stq s f p) 0 (fun _ => 0) (fun _ => false) (pgF s f p) M3 := h3
        exact h M3 (fun n hn => by rw [o3 n hn, o12 n (by omega), o1 n hn]) h3'.2.2.2.1 (h3'.2.2.2.2.2.2.1 (by omega))
    | succ m ih =>
      intro u M1 hu o1 g1 g2
      refine pk_le (s 2) u (fun z => absurd z (by omega)) (fun _ => ⟨vp_i (by omega) (by decide), ?_⟩) g1
      refine sX_alone (by decide) (o1.hx hX) hV (by omega) hp (fun M21 e21 => ⟨s 2 - (u + 1) + 1, ?_⟩)
      rw [cl_i (show u < 2 ^ 31 by omega)] at e21
      rw [nI_1]
      refine L37 _ u (by omega) (fun M2 o2 k1 k2 => ?_) (s 2 - (u + 1)) (u + 1) M21 (by omega) (by omega) (fun n hn => by rw [cpo e21 (by omega)]; exact o1 n hn) (by rw [cpo e21 (by omega)]; exact g1) (fun u' hu' => ?_) ?_ (fun q' h1 h2 => absurd h2 (by omega))
      · rw [nI_1]
        exact ih (u + 1) M2 (by omega) o2 k1 k2
      · rw [cpo e21 (by omega)]
        exact g2 u' hu'
      · rw [e21, wI_same, pk_us, stq_in (by omega) (by omega)]
  exact ⟨s 2 + 1, L10 (s 2) 0 M23 (by omega) o23 p23 (fun u' hu' => absurd hu' (by omega))⟩
def pvj (s : Nat → Nat) (f : Nat → Nat → Nat) (p j : Nat) : Int32 := if j < s 2 then nI ((pgF s f p).2.2 j) - 1 else -1
theorem sX_partner {p j : Nat} {M : Mm} {s : Nat → Nat} {f : Nat → Nat → Nat} {T : Nat} {post : Int32 → Mm → Prop} (hX : HX 3 M s f) (hV : Vt T s f) (hj : j < 5) (h9 : ∀ q, q < s 2 → M.1 79 q = nI ((pgF s f p).2.2 q) - 1) (h : post (pvj s f p j) M) : w_X6_partnerOf (nI j) M post := by
  have hs := hV.1.2.2.1
  unfold w_X6_partnerOf
  unfold pvj at h
  refine sX_hasPerson hX.people (by omega) (fun a => pb_1 ⟨vp_i (by omega) (by decide), ?_⟩) (fun a => pb_0 ?_)
  · obtain ⟨j', h1, h2⟩ := a
    have := (nI_eq (by omega) (by omega)).mp h2
    rw [if_pos (by omega)] at h
    rw [cl_i (by omega), h9 j (by omega)]
    exact h
  · have : ¬ j < s 2 := fun q => a ⟨j, q, rfl⟩
    rw [if_neg this] at h
    exact h
