/-! ===== ends of passages; who goes; what is seen ===== -/
def ea (f : Nat → Nat → Nat) (p r : Nat) : Prop := f 0 p = r ∨ f 1 p = r
def ac (f : Nat → Nat → Nat) (p r : Nat) : Nat := if f 0 p = r then f 1 p else f 0 p
theorem ac_lt {T : Nat} {s : Nat → Nat} {f : Nat → Nat → Nat} (hV : Vt T s f) {p : Nat} (hp : p < s 1) (r : Nat) : ac f p r < s 0 := by
  have vp := hV.2.2.1 p hp
  unfold ac
  split <;> omega
theorem sX_endsAt {b p r : Nat} {M : Mm} {s : Nat → Nat} {f : Nat → Nat → Nat} {post : Int32 → Mm → Prop} {T : Nat} (hX : HX b M s f) (hV : Vt T s f) (hp : p < s 1) (hr : r < 2 ^ 31) (h1 : ea f p r → post 1 M) (h0 : ¬ ea f p r → post 0 M) : w_X2_endsAt b (nI p) (nI r) M post := by
  have hs1 := hV.1.2.1
  have hs0 := hV.1.1
  have vp := hV.2.2.1 p hp
  unfold w_X2_endsAt
  rw [cl_i (by omega), hX.one (by omega), hX.other (by omega)]
  exact ⟨vp_i (by omega) (by decide), pk_eq (f 0 p) r (fun z => h1 (Or.inl z)) (fun z => re_ (f 1 p) r (fun z2 => h0 (fun q => q.elim z z2)) (fun z2 => h1 (Or.inr z2)))⟩
theorem sM_endsAt {p r : Nat} {M : Mm} {s : Nat → Nat} {f : Nat → Nat → Nat} {post : Int32 → Mm → Prop} {T : Nat} (hM : HM M s f) (hV : Vt T s f) (hp : p < s 1) (hr : r < 2 ^ 31) (h1 : ea f p r → post 1 M) (h0 : ¬ ea f p r → post 0 M) : w_X12_endsAt (nI p) (nI r) M post := by
  have hs1 := hV.1.2.1
  have hs0 := hV.1.1
  have vp := hV.2.2.1 p hp
  unfold w_X12_endsAt
  rw [cl_i (by omega), hM.one (by omega), hM.other (by omega)]
  exact ⟨vp_i (by omega) (by decide), pk_eq (f 0 p) r (fun z => h1 (Or.inl z)) (fun z => re_ (f 1 p) r (fun z2 => h0 (fun q => q.elim z z2)) (fun z2 => h1 (Or.inr z2)))⟩
theorem sX_across {b p r : Nat} {M : Mm} {s : Nat → Nat} {f : Nat → Nat → Nat} {post : Int32 → Mm → Prop} {T : Nat} (hX : HX b M s f) (hV : Vt T s f) (hp : p < s 1) (hr : r < 2 ^ 31) (h : post (nI (ac f p r)) M) : w_X2_across b (nI p) (nI r) M post := by
  have hs1 := hV.1.2.1
  have hs0 := hV.1.1
  have vp := hV.2.2.1 p hp
  unfold w_X2_across
  rw [cl_i (by omega), hX.one (by omega), hX.other (by omega)]
  unfold ac at h
  refine ⟨vp_i (by omega) (by decide), re_ (f 0 p) r (fun z => ?_) (fun z => ?_)⟩
  · rw [if_neg z] at h
    exact h
  · rw [if_pos z] at h
    exact h
theorem sM_bey {p a c r : Nat} {M : Mm} {post : Int32 → Mm → Prop} (hp : p < 7) (e1 : M.1 1 p = nI a) (e2 : M.1 2 p = nI c) (ha : a < 2 ^ 31) (hr : r < 2 ^ 31) (h : post (nI (if a = r then c else a)) M) : w_X12_beyond (nI p) (nI r) M post := by
  unfold w_X12_beyond
  rw [cl_i (by omega), e1, e2]
  refine ⟨vp_i (by omega) (by decide), re_ a r (fun z => ?_) (fun z => ?_)⟩
  · rw [if_neg z] at h
    exact h
  · rw [if_pos z] at h
    exact h
theorem sX_leave {b i p w : Nat} {M : Mm} {s : Nat → Nat} {f : Nat → Nat → Nat} {post : Int32 → Mm → Prop} {T : Nat} (hX : HX b M s f) (hV : Vt T s f) (hi : i < s 2) (hp : p < s 1) (hw : w ≤ s 2) (h1 : ea f p (f 6 i) → (w = 0 ∨ f 6 (w - 1) = f 6 i) → post 1 M) (h0 : ¬ (ea f p (f 6 i) ∧ (w = 0 ∨ f 6 (w - 1) = f 6 i)) → post 0 M) : w_X2_mayLeaveBy b (nI i) (nI p) (nI w - 1) M post := by
  have hs := hV.1.2.2.1
  have hs0 := hV.1.1
  have vi := hV.2.2.2.1 i hi
  unfold w_X2_mayLeaveBy
  refine ⟨vp_i (by omega) (by decide), ?_⟩
  rw [cl_i (by omega), hX.place (by omega)]
  refine sX_endsAt hX hV hp (by omega) (fun q => pb_1 ?_) (fun q => pb_0 (h0 (fun z => q z.1)))
  rcases w_cases w with ⟨rfl, e⟩ | ⟨j, rfl, e⟩
  · rw [e]
    exact pb_t rfl (h1 q (Or.inl rfl))
  · rw [e]
    have vj := hV.2.2.2.1 j (by omega)
    refine pb_f (ne_m1 (by omega)) ⟨vp_i (by omega) (by decide), ?_⟩
    rw [cl_i (by omega), hX.place (by omega), hX.place (by omega)]
    refine re_ (f 6 j) (f 6 i) (fun z => h0 (fun y => ?_)) (fun z => h1 q (Or.inr z))
    rcases y.2 with y | y
    · omega
    · exact z y
def wk1 (f : Nat → Nat → Nat) (i g n : Nat) : Nat → Nat → Nat := upf (upf f 6 i g) 7 i (f 7 i + n)
theorem wk1_o {f : Nat → Nat → Nat} {i g n a c : Nat} (h : a ≠ 6 ∧ a ≠ 7) : wk1 f i g n a c = f a c := by
  unfold wk1
  rw [upf_n (by omega), upf_n (by omega)]
theorem wk1_6 {f : Nat → Nat → Nat} {i g n c : Nat} : wk1 f i g n 6 c = if c = i then g else f 6 c := by
  unfold wk1
  rw [upf_n (by omega)]
  unfold upf
  by_cases z : c = i <;> simp [z]
theorem wk1_7 {f : Nat → Nat → Nat} {i g n c : Nat} : wk1 f i g n 7 c = if c = i then f 7 i + n else f 7 c := by
  unfold wk1 upf
  by_cases z : c = i <;> simp [z]
theorem Vt.wk {T T1 : Nat} {s : Nat → Nat} {f : Nat → Nat → Nat} (v : Vt T s f) {i g n : Nat} (hg : g < s 0) (hT : T ≤ T1) (hn : f 7 i + n ≤ T1) : Vt T1 s (wk1 f i g n) := by
  refine ⟨v.1, v.2.1, fun p hp => ?_, fun a ha => ?_, fun a ha => ?_⟩
  · rw [wk1_o (by omega), wk1_o (by omega), wk1_o (by omega)]
    exact v.2.2.1 p hp
  · rw [wk1_o (by omega), wk1_o (by omega), wk1_o (by omega), wk1_6, wk1_7]
    have va := v.2.2.2.1 a ha
    by_cases z : a = i
    · rw [if_pos z, if_pos z]
      omega
    · rw [if_neg z, if_neg z]
      omega
  · rw [wk1_o (by omega), wk1_o (by omega), wk1_o (by omega), wk1_o (by omega)]
    exact v.2.2.2.2 a ha
theorem stp_le {T : Nat} {s : Nat → Nat} {f : Nat → Nat → Nat} (v : Vt T s f) {i p w li : Nat} (hi : i < s 2) (hp : p < s 1) (hw : w ≤ s 2) (hl : li ≤ 9) : stp f i p w li ≤ 108 := by
  have vi := v.2.2.2.1 i hi
  have vp := v.2.2.1 p hp
  have y1 := yd_le (f 3 i) (f 2 p) (f 4 i) li
  unfold stp
  by_cases z : w = 0
  · rw [if_pos z]
    omega
  · rw [if_neg z]
    have vj := v.2.2.2.1 (w - 1) (by omega)
    have y2 := yd_le (f 3 (w - 1)) (f 2 p) (f 4 (w - 1)) (f 5 (w - 1))
    omega
def outH (b : Nat) (M M1 : Mm) : Prop := ∀ n, n < b ∨ b + 19 ≤ n → M1.1 n = M.1 n
theorem sX_walk0 {b i p : Nat} {M : Mm} {s : Nat → Nat} {f : Nat → Nat → Nat} {post : Int32 → Mm → Prop} {T : Nat} (hb : isH b) (hX : HX b M s f) (hV : Vt T s f) (hi : i < s 2) (hp : p < s 1) (h : ∀ M1, HX b M1 s (wk1 f i (ac f p (f 6 i)) (stp f i p 0 (f 5 i))) → outH b M M1 → post (nI (stp f i p 0 (f 5 i))) M1) : w_X2_walk b (nI i) (nI p) (-1) M post := by
  have hs := hV.1.2.2.1
  have hs0 := hV.1.1
  have vi := hV.2.2.2.1 i hi
  unfold w_X2_walk
  rw [← nI_m1]
  refine ⟨vp_i (by omega) (by decide), ?_⟩
  rw [cl_i (show i < 2 ^ 31 by omega), hX.lie (by omega)]
  refine sX_swl hb hX hV hi hp (by omega) (by omega) ?_
  rw [hX.place (by omega)]
  refine sX_across hX hV hp (by omega) ?_
  intro M8 e8 M10 e10
  have h8 := hX.wr 6 i _ e8
  rw [h8.took (by omega), upf_n (by omega), nI_add] at e10
  have h10 := h8.wr 7 i _ e10
  refine pb_t nI_m1 (h M10 h10 (fun n hn => ?_))
  rw [e10, wI_ne _ _ (by omega), e8, wI_ne _ _ (by omega)]
theorem sX_walk1 {b i p j : Nat} {M : Mm} {s : Nat → Nat} {f : Nat → Nat → Nat} {post : Int32 → Mm → Prop} {T : Nat} (hb : isH b) (hX : HX b M s f) (hV : Vt T s f) (hi : i < s 2) (hp : p < s 1) (hj : j < s 2) (h : ∀ M1, HX b M1 (ups s 3 (s 3 + 1)) (wk1 (wk1 f i (ac f p (f 6 i)) (stp f i p (j + 1) (f 5 i))) j (ac f p (f 6 i)) (stp f i p (j + 1) (f 5 i))) → outH b M M1 → post (nI (stp f i p (j + 1) (f 5 i))) M1) : w_X2_walk b (nI i) (nI p) (nI j) M post := by
  have hs := hV.1.2.2.1
  have hs0 := hV.1.1
  have vi := hV.2.2.2.1 i hi
  unfold w_X2_walk
  rw [← nI_pred j]
  refine ⟨vp_i (by omega) (by decide), ?_⟩
  rw [cl_i (show i < 2 ^ 31 by omega), hX.lie (by omega)]
  refine sX_swl hb hX hV hi hp (by omega) (by omega) ?_
  rw [nI_pred j, hX.place (by omega)]
  refine sX_across hX hV hp (by omega) ?_
  intro M8 e8 M10 e10
  have h8 := hX.wr 6 i _ e8
  rw [h8.took (by omega), upf_n (by omega), nI_add] at e10
  have h10 := h8.wr 7 i _ e10
  refine pb_f (ne_m1 (by omega)) ⟨vp_i (by omega) (by decide), fun M14 e14 M16 e16 M18 e18 => ?_⟩
  rw [cl_i (show j < 2 ^ 31 by omega)] at e14 e16
  have h14 := h10.wr 6 j _ e14
  rw [h14.took (by omega), upf_n (by omega), nI_add] at e16
  have h16 := h14.wr 7 j _ e16
  rw [h16.together, nI_1] at e18
  have h18 := h16.sc 3 _ (by decide) e18
  refine h M18 h18 (fun n hn => ?_)
  rw [e18, wI_ne _ _ (by omega), e16, wI_ne _ _ (by omega), e14, wI_ne _ _ (by omega), e10, wI_ne _ _ (by omega), e8, wI_ne _ _ (by omega)]
theorem sM_know {x1 x2 x3 : Int32} {M : Mm} {s : Nat → Nat} {f : Nat → Nat → Nat} {T : Nat} {A K : Mm → Prop} (hM : HM M s f) (hV : Vt T s f) (h1 : kn s x1 x2 x3 → K M) (h0 : ¬ kn s x1 x2 x3 → A M) : w_X12_isPerson x1 M (fun r1 M2 => ((r1 = 0) → A M2) ∧ ((¬ r1 = 0) → w_X12_isPassage x2 M2 (fun r5 M6 => ((r5 = 0) → A M6) ∧ ((¬ r5 = 0) → w_X12_isWith x1 x3 M6 (fun r9 M10 => ((¬ r9 = 0) → K M10) ∧ ((r9 = 0) → A M10)))))) := by
  have hs := hV.1.2.2.1
  have hs1 := hV.1.2.1
  exact sM_isPerson hM.people (by omega) (fun a1 => pb_1 (sM_isPassage hM.passages (by omega) (fun a2 => pb_1 (sM_isWith hM.people (by omega) (fun a3 => pn_1 (h1 ⟨a1, a2, a3⟩)) (fun a3 => pn_0 (h0 (fun q => a3 q.2.2))))) (fun a2 => pb_0 (h0 (fun q => a2 q.2.1))))) (fun a1 => pb_0 (h0 (fun q => a1 q.1)))
theorem sM_tired0 {M : Mm} {post : Int32 → Mm → Prop} (h : post 0 M) : w_X12_isTired (-1) M post := pb_t rfl h
theorem sM_tired {j t : Nat} {M : Mm} {post : Int32 → Mm → Prop} (hj : j < 5) (e : M.1 8 j = nI t) (ht : t ≤ 9200) (h1 : 9000 < t → post 1 M) (h0 : t ≤ 9000 → post 0 M) : w_X12_isTired (nI j) M post := by
  unfold w_X12_isTired
  refine pb_f (ne_m1 (by omega)) ⟨vp_i (by omega) (by decide), ?_⟩
  rw [cl_i (by omega), e]
  exact pk_le t 9000 (fun z => h0 z) (fun z => h1 z)
theorem sim_go (k : Nat) (MX MM : Mm) (x1 x2 x3 : Int32) (hk : k < 512) (hR : Rel k MX MM) : w_X11_go x1 x2 x3 MX (fun r MX1 => w_X12_go x1 x2 x3 MM (fun r1 MM1 => r = r1 ∧ Rel (k + 1) MX1 MM1)) := by
  have hR1 := hR.up
  obtain ⟨s, f, hX, hM, v, hR⟩ := hR.el
  have hs := v.1.2.2.1
  have hs1 := v.1.2.1
  have hs0 := v.1.1
  unfold w_X11_go
  refine sX_knows hX v (fun h => pn_1 ?_) (fun h => pn_0 ?_)
  rotate_left
  · unfold w_X12_go
    exact sM_know hM v (fun a => absurd a h) (fun _ => ⟨rfl, hR1⟩)
  have h' := h
  obtain ⟨i, p, w, hi, hp, hw, hne, rfl, rfl, rfl⟩ := kn_el h hs
  have vi := v.2.2.2.1 i hi
  have vp := v.2.2.1 p hp
  have ci : (nI i).toNatClampNeg = i := cl_i (by omega)
  have a6 := ac_lt v hp (f 6 i)
  have st := stp_le v hi hp hw (li := f 5 i) (by omega)
  refine sX_leave hX v hi hp hw (fun q1 q2 => pn_1 ⟨vp_i (by omega) (by decide), ?_⟩) (fun q => pn_0 ?_)
  · -- he may leave
    have MS : ∀ (K : Mm → Prop) (A B : Mm → Prop), K MM → ((¬ (1 : Int32) = 0 → (vp_in (nI i) 5) ∧ (w_X12_endsAt (nI p) (MM.1 7 (nI i).toNatClampNeg) MM (fun r44 M45 => ((r44 = 0) → (A M45)) ∧ ((¬ r44 = 0) → ((((nI w - 1 : Int32) = (-1 : Int32)) → (K M45)) ∧ ((¬ (nI w - 1 : Int32) = (-1 : Int32)) → ((vp_in (nI w - 1) 5) ∧ ((((M45.1 7 (nI w - 1 : Int32).toNatClampNeg) = (MM.1 7 (nI i).toNatClampNeg)) → (K M45)) ∧ ((¬ (M45.1 7 (nI w - 1 : Int32).toNatClampNeg) = (MM.1 7 (nI i).toNatClampNeg)) → (A M45))))))))))) ∧ ((1 : Int32) = 0 → B MM) := by
      intro K A B hK
      refine pn_1 ⟨vp_i (by omega) (by decide), ?_⟩
      rw [ci, hM.place (by omega)]
      refine sM_endsAt hM v hp (by omega) (fun _ => pb_1 ?_) (fun z => absurd q1 z)
      rcases w_cases w with ⟨rfl, e⟩ | ⟨j, rfl, e⟩
      · rw [e]
        exact pb_t rfl hK
      · rw [e]
        have vj := v.2.2.2.1 j (by omega)
        refine pb_f (ne_m1 (by omega)) ⟨vp_i (by omega) (by decide), ?_⟩
        rw [cl_i (by omega), hM.place (by omega)]
        refine pk_eq (f 6 j) (f 6 i) (fun _ => hK) (fun z => ?_)
        rcases q2 with q2 | q2
        · omega
        · exact absurd q2 z
    rw [ci, H3_took hX (by omega)]
    refine pk_lt 9000 (f 7 i) (fun t1 => ?_) (fun t1 => ?_)
    · unfold w_X12_go
      refine sM_know hM v (fun _ => ?_) (fun z => absurd h' z)
      refine (MS _ _ (fun _ => True) ?_).1 (by decide)
      rw [ci, hM.place (by omega)]
      unfold w_X12_go_65
      exact sM_tired (by omega) (hM.took (by omega)) (by omega) (fun _ => pn_1 ⟨rfl, hR1⟩) (fun z => absurd z (by omega))
    · rcases w_cases w with ⟨rfl, e⟩ | ⟨j, rfl, e⟩
      · rw [e] at h' MS ⊢
        refine pb_t rfl ?_
        unfold w_X11_go_70
        refine sX_walk0 (by decide) hX v hi hp (fun M1 g1 g2 => ?_)
        unfold w_X12_go
        refine sM_know hM v (fun _ => ?_) (fun z => absurd h' z)
        refine (MS _ _ (fun _ => True) ?_).1 (by decide)
        rw [ci, hM.place (by omega)]
        unfold w_X12_go_65
        refine sM_tired (by omega) (hM.took (by omega)) (by omega) (fun z => absurd z (by omega)) (fun _ => pn_0 (sM_tired0 (pb_0 ?_)))
        rw [← nI_m1]
        refine sM_stepsOf hM v hi hp (by omega) ⟨vp_i (by omega) (by decide), fun M13 e13 => ?_⟩
        rw [ci, hM.took (by omega), nI_add] at e13
        have h13 := hM.wr 7 i _ e13
        refine sM_bey (by omega) (h13.one (by omega)) (h13.other (by omega)) (by rw [upf_n (by omega)]; omega) (by omega) ?_
        rw [upf_n (by omega), upf_n (by omega)]
        intro M18 e18
        rw [ci] at e18
        have h18 := h13.wr 6 i _ e18
        refine pb_t nI_m1 ⟨rfl, ?_⟩
        rw [upf_comm (by decide)] at h18
        refine Rel.mk g1 h18 (v.wk a6 (Nat.le_refl _) (by omega)) (hR.hs ⟨rfl, rfl, rfl⟩ (fun a => ⟨wk1_o (by omega), wk1_o (by omega), wk1_o (by omega)⟩) (fun n hn => g2 n (by omega)) (fun n hn => ?_) (fun n hn => ?_))
        · rw [e18, wI_ne _ _ (by omega), e13, wI_ne _ _ (by omega)]
        · rw [e18, wI_ne _ _ (by omega), e13, wI_ne _ _ (by omega)]
      · rw [e] at h' MS ⊢
        have vj := v.2.2.2.1 j (by omega)
        have cj : (nI j).toNatClampNeg = j := cl_i (by omega)
        refine pb_f (ne_m1 (by omega)) ⟨vp_i (by omega) (by decide), ?_⟩
        rw [cj, H3_took hX (by omega)]
        refine pk_le (f 7 j) 9000 (fun t2 => ?_) (fun t2 => ?_)
        · unfold w_X11_go_70
          refine sX_walk1 (by decide) hX v hi hp (by omega) (fun M1 g1 g2 => ?_)
          unfold w_X12_go
          refine sM_know hM v (fun _ => ?_) (fun z => absurd h' z)
          refine (MS _ _ (fun _ => True) ?_).1 (by decide)
          rw [ci, hM.place (by omega)]
          unfold w_X12_go_65
          refine sM_tired (by omega) (hM.took (by omega)) (by omega) (fun z => absurd z (by omega)) (fun _ => pn_0 (sM_tired (by omega) (hM.took (by omega)) (by omega) (fun z => absurd z (by omega)) (fun _ => pb_0 ?_)))
          rw [← nI_pred j]
          refine sM_stepsOf hM v hi hp (by omega) ⟨vp_i (by omega) (by decide), fun M13 e13 => ?_⟩
          rw [ci, hM.took (by omega), nI_add] at e13
          have h13 := hM.wr 7 i _ e13
          refine sM_bey (by omega) (h13.one (by omega)) (h13.other (by omega)) (by rw [upf_n (by omega)]; omega) (by omega) ?_
          rw [upf_n (by omega), upf_n (by omega)]
          intro M18 e18
          rw [ci] at e18
          have h18 := h13.wr 6 i _ e18
          rw [nI_pred j]
          refine pb_f (ne_m1 (by omega)) ⟨vp_i (by omega) (by decide), fun M22 e22 => ?_⟩
          rw [upf_comm (by decide)] at h18
          rw [cj, h18.took (by omega), nI_add] at e22
          have h22 := h18.wr 7 j _ e22
          refine sM_bey (by omega) (h22.one (by omega)) (h22.other (by omega)) (by rw [upf_n (by omega), upf_n (by omega), upf_n (by omega)]; omega) (by omega) ?_
          rw [upf_n (by omega), upf_n (by omega), upf_n (by omega), upf_n (by omega), upf_n (by omega), upf_n (by omega)]
          intro M27 e27 M29 e29
          rw [cj] at e27
          have h27 := h22.wr 6 j _ e27
          rw [upf_comm (by decide)] at h27
          rw [h27.together, nI_1] at e29
          have h29 := h27.sc 3 _ (by decide) e29
          refine ⟨rfl, ?_⟩
          have v1 := v.wk (i := i) a6 (Nat.le_refl 9200) (n := stp f i p (j + 1) (f 5 i)) (by omega)
          have v2 := v1.wk (i := j) a6 (Nat.le_refl 9200) (n := stp f i p (j + 1) (f 5 i)) (by rw [wk1_7, if_neg (by omega)]; omega)
          refine Rel.mk g1 h29 ⟨v2.1, v2.2.1, v2.2.2.1, v2.2.2.2.1, v2.2.2.2.2⟩ (hR.hs ⟨rfl, rfl, rfl⟩ (fun a => ⟨?_, ?_, ?_⟩) (fun n hn => g2 n (by omega)) (fun n hn => ?_) (fun n hn => ?_))
          · rw [wk1_o (by omega), wk1_o (by omega)]
          · rw [wk1_o (by omega), wk1_o (by omega)]
          · rw [wk1_o (by omega), wk1_o (by omega)]
          · rw [e29, wI_same, pk_un (by omega), e27, wI_ne _ _ (by omega), e22, wI_ne _ _ (by omega), e18, wI_ne _ _ (by omega), e13, wI_ne _ _ (by omega)]
          · rw [e29, wI_ne _ _ (by omega), e27, wI_ne _ _ (by omega), e22, wI_ne _ _ (by omega), e18, wI_ne _ _ (by omega), e13, wI_ne _ _ (by omega)]
        · unfold w_X12_go
          refine sM_know hM v (fun _ => ?_) (fun z => absurd h' z)
          refine (MS _ _ (fun _ => True) ?_).1 (by decide)
          rw [ci, hM.place (by omega)]
          unfold w_X12_go_65
          exact sM_tired (by omega) (hM.took (by omega)) (by omega) (fun z => absurd z (by omega)) (fun _ => pn_0 (sM_tired (by omega) (hM.took (by omega)) (by omega) (fun _ => pb_1 ⟨rfl, hR1⟩) (fun z => absurd z (by omega))))
  · -- he may not
    unfold w_X12_go
    refine sM_know hM v (fun _ => ⟨vp_i (by omega) (by decide), ?_⟩) (fun z => absurd h' z)
    rw [ci, hM.place (by omega)]
    refine sM_endsAt hM v hp (by omega) (fun q1 => pb_1 ?_) (fun _ => pb_0 ⟨rfl, hR1⟩)
    rcases w_cases w with ⟨rfl, e⟩ | ⟨j, rfl, e⟩
    · exact absurd ⟨q1, Or.inl rfl⟩ q
    · rw [e]
      have vj := v.2.2.2.1 j (by omega)
      refine pb_f (ne_m1 (by omega)) ⟨vp_i (by omega) (by decide), ?_⟩
      rw [cl_i (by omega), hM.place (by omega)]
      exact pk_eq (f 6 j) (f 6 i) (fun z => absurd ⟨q1, Or.inr z⟩ q) (fun _ => ⟨rfl, hR1⟩)
theorem sim_see (k : Nat) (MX MM : Mm) (x1 x2 x3 x4 : Int32) (hk : k < 512) (hR : Rel k MX MM) : w_X11_see x1 x2 x3 x4 MX (fun r MX1 => w_X12_see x1 x2 x3 x4 MM (fun r1 MM1 => r = r1 ∧ Rel (k + 1) MX1 MM1)) := by
  have hR1 := hR.up
  obtain ⟨s, f, hX, hM, v, hR⟩ := hR.el
  have hs := v.1.2.2.1
  have hs1 := v.1.2.1
  have hs4 := v.1.2.2.2
  unfold w_X11_see w_X12_see
  refine sX_knows hX v (fun h => pn_1 ?_) (fun h => pn_0 (sM_know hM v (fun a => absurd a h) (fun _ => ⟨rfl, hR1⟩)))
  refine ⟨fun q => ?_, fun q => ⟨fun q2 => ?_, fun q2 => ?_⟩⟩
  · exact sM_know hM v (fun _ => sM_within (fun z _ => absurd q z) (fun _ => pn_0 ⟨rfl, hR1⟩)) (fun z => absurd h z)
  · obtain ⟨n, -, n1, rfl⟩ := inR (lo := 0) (hi := 120) (by decide) q q2 (by decide)
    have MS : ∀ (K : Mm → Prop) (A : Mm → Prop), K MM → w_X12_within (nI n) 0 120 MM (fun r13 M14 => (¬ r13 = 0 → K M14) ∧ (r13 = 0 → A M14)) := by
      intro K A hK
      refine sM_within (fun _ _ => pn_1 hK) (fun z => ?_)
      rcases z with z | z
      · exact absurd z q
      · exact absurd z (le_nlt.mp q2)
    have h' := h
    obtain ⟨i, p, w, hi, hp, hw, hne, rfl, rfl, rfl⟩ := kn_el h hs
    rw [H3_seen hX]
    refine pk_lt (s 4) 6 (fun t => ?_) (fun t => ?_)
    · unfold w_X2_note
      rw [H3_seen hX]
      refine pb_f (nI_ge (a := s 4) (b := 6) t (by decide)) ⟨vp_i (by omega) (by decide), fun M3 e3 => ?_⟩
      rw [cl_i (by omega)] at e3
      have h3 := hX.wr 8 (s 4) i e3
      rw [h3.seen]
      refine ⟨vp_i (by omega) (by decide), fun M6 e6 => ?_⟩
      rw [cl_i (by omega)] at e6
      have h6 := h3.wr 9 (s 4) p e6
      rw [h6.seen]
      refine ⟨vp_i (by omega) (by decide), fun M9 e9 => ?_⟩
      rw [cl_i (by omega)] at e9
      have h9 := h6.wr 10 (s 4) w e9
      rw [h9.seen]
      refine ⟨vp_i (by omega) (by decide), fun M12 e12 M14 e14 => ?_⟩
      rw [cl_i (by omega)] at e12
      have h12 := h9.wr 11 (s 4) n e12
      rw [h12.seen, nI_1] at e14
      have h14 := h12.sc 4 _ (by decide) e14
      refine sM_know hM v (fun _ => MS _ _ ?_) (fun z => absurd h' z)
      rw [hM.seen]
      refine re_ (s 4) 6 (fun _ => ⟨vp_i (by omega) (by decide), fun N3 d3 => ?_⟩) (fun z => absurd z (by omega))
      rw [cl_i (by omega)] at d3
      have g3 := hM.wr 8 (s 4) i d3
      rw [g3.seen]
      refine ⟨vp_i (by omega) (by decide), fun N6 d6 => ?_⟩
      rw [cl_i (by omega)] at d6
      have g6 := g3.wr 9 (s 4) p d6
      rw [g6.seen]
      refine ⟨vp_i (by omega) (by decide), fun N9 d9 => ?_⟩
      rw [cl_i (by omega)] at d9
      have g9 := g6.wr 10 (s 4) w d9
      rw [g9.seen]
      refine ⟨vp_i (by omega) (by decide), fun N12 d12 N14 d14 => ?_⟩
      rw [cl_i (by omega)] at d12
      have g12 := g9.wr 11 (s 4) n d12
      rw [g12.seen, nI_1] at d14
      have g14 := g12.sc 4 _ (by decide) d14
      refine ⟨?_, ?_⟩
      · rw [h14.seen, g14.seen]
      · refine Rel.mk h14 g14 ?_ (hR.hs ⟨rfl, rfl, rfl⟩ (fun a => ⟨?_, ?_, ?_⟩) (fun m hm => ?_) (fun m hm => ?_) (fun m hm => ?_))
        · refine ⟨⟨v.1.1, v.1.2.1, v.1.2.2.1, ?_⟩, v.2.1, fun a ha => ?_, fun a ha => ?_, fun a ha => ?_⟩
          · show s 4 + 1 ≤ 6
            omega
          · rw [upf_n (by omega), upf_n (by omega), upf_n (by omega), upf_n (by omega), upf_n (by omega), upf_n (by omega), upf_n (by omega), upf_n (by omega), upf_n (by omega), upf_n (by omega), upf_n (by omega), upf_n (by omega)]
            exact v.2.2.1 a ha
          · have va := v.2.2.2.1 a ha
            have o : ∀ c, c < 8 → upf (upf (upf (upf f 8 (s 4) i) 9 (s 4) p) 10 (s 4) w) 11 (s 4) n c a = f c a := fun c hc => by rw [upf_n (by omega), upf_n (by omega), upf_n (by omega), upf_n (by omega)]
            rw [o 3 (by omega), o 4 (by omega), o 5 (by omega), o 6 (by omega), o 7 (by omega)]
            exact va
          · have ha' : a < s 4 + 1 := ha
            have d8 : upf (upf (upf (upf f 8 (s 4) i) 9 (s 4) p) 10 (s 4) w) 11 (s 4) n 8 a = if a = s 4 then i else f 8 a := by
              rw [upf_n (by omega), upf_n (by omega), upf_n (by omega)]
              unfold upf
              by_cases z : a = s 4 <;> simp [z]
            have d9 : upf (upf (upf (upf f 8 (s 4) i) 9 (s 4) p) 10 (s 4) w) 11 (s 4) n 9 a = if a = s 4 then p else f 9 a := by
              rw [upf_n (by omega), upf_n (by omega)]
              unfold upf
              by_cases z : a = s 4 <;> simp [z]
            have d10 : upf (upf (upf (upf f 8 (s 4) i) 9 (s 4) p) 10 (s 4) w) 11 (s 4) n 10 a = if a = s 4 then w else f 10 a := by
              rw [upf_n (by omega)]
              unfold upf
              by_cases z : a = s 4 <;> simp [z]
            have d11 : upf (upf (upf (upf f 8 (s 4) i) 9 (s 4) p) 10 (s 4) w) 11 (s 4) n 11 a = if a = s 4 then n else f 11 a := by
              unfold upf
              by_cases z : a = s 4 <;> simp [z]
            rw [d8, d9, d10, d11]
            by_cases z : a = s 4
            · rw [if_pos z, if_pos z, if_pos z, if_pos z]
              exact ⟨hi, hp, hw, hne, n1⟩
            · rw [if_neg z, if_neg z, if_neg z, if_neg z]
              exact v.2.2.2.2 a (by omega)
        · rw [upf_n (by omega), upf_n (by omega), upf_n (by omega), upf_n (by omega)]
        · rw [upf_n (by omega), upf_n (by omega), upf_n (by omega), upf_n (by omega)]
        · rw [upf_n (by omega), upf_n (by omega), upf_n (by omega), upf_n (by omega)]
        · rw [e14, wI_ne _ _ (by omega), e12, wI_ne _ _ (by omega), e9, wI_ne _ _ (by omega), e6, wI_ne _ _ (by omega), e3, wI_ne _ _ (by omega)]
        · rw [d14, wI_same, pk_un (by omega), d12, wI_ne _ _ (by omega), d9, wI_ne _ _ (by omega), d6, wI_ne _ _ (by omega), d3, wI_ne _ _ (by omega)]
        · rw [d14, wI_ne _ _ (by omega), d12, wI_ne _ _ (by omega), d9, wI_ne _ _ (by omega), d6, wI_ne _ _ (by omega), d3, wI_ne _ _ (by omega)]
    · refine sM_know hM v (fun _ => MS _ _ ?_) (fun z => absurd h' z)
      rw [hM.seen]
      exact re_ (s 4) 6 (fun z => absurd (show s 4 = 6 by omega) z) (fun _ => ⟨rfl, hR1⟩)
  · exact sM_know hM v (fun _ => sM_within (fun _ z => absurd (le_nlt.mpr z) q2) (fun _ => pn_0 ⟨rfl, hR1⟩)) (fun z => absurd h z)
