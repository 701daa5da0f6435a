/-! ===== the page as the reference reads it; fault ===== -/
def o3 (M M1 : Mm) : Prop := (∀ n, n ≠ 0 → M1.1 n = M.1 n) ∧ ∀ j, j ≠ 21 → j ≠ 22 → j ≠ 23 → M1.1 0 j = M.1 0 j
theorem o3.rf {M : Mm} : o3 M M := ⟨fun _ _ => rfl, fun _ _ _ _ => rfl⟩
theorem o3.tr {M M1 M2 : Mm} (h : o3 M M1) (g : o3 M1 M2) : o3 M M2 := ⟨fun n hn => (g.1 n hn).trans (h.1 n hn), fun j a b c => (g.2 j a b c).trans (h.2 j a b c)⟩
theorem o3.w {M M1 : Mm} {k : Nat} {x : Int32} (hk : k = 21 ∨ k = 22 ∨ k = 23) (e : M1 = wI M 0 (upd (M.1 0) k x)) : o3 M M1 := ⟨fun n hn => cpo e hn, fun j a b c => by rw [e, wI_same, pk_un (by omega)]⟩
theorem o3.mp {M M1 : Mm} {pn : Nat} {pg : Nat → Nat} (h : o3 M M1) (hP : MP pn pg M) : MP pn pg M1 := ⟨by rw [h.2 19 (by decide) (by decide) (by decide)]; exact hP.1, hP.2.1, fun i hi => by rw [h.1 13 (by decide)]; exact hP.2.2.1 i hi, hP.2.2.2⟩
theorem o3.co {M M1 : Mm} (h : o3 M M1) : coM M M1 := ⟨h.2, fun n hn => h.1 n (by omega)⟩
theorem sM_rP {pn v : Nat} {pg : Nat → Nat} {M : Mm} {post : Int32 → Mm → Prop} (hP : MP pn pg M) (hv : v ≤ 100) (h0c : 50 ≤ cd pn pg 0 ∧ cd pn pg 0 ≤ 53) (g0 : ¬ (48 ≤ cd pn pg v ∧ cd pn pg v < cd pn pg 0) → post (nI v) M) (g1 : 48 ≤ cd pn pg v → cd pn pg v < cd pn pg 0 → ¬ (48 ≤ cd pn pg (v + 1) ∧ cd pn pg (v + 1) < cd pn pg 0 ∧ cd pn pg (v + 1) ≠ cd pn pg v) → post (nI (v + 1)) M) (g2 : 48 ≤ cd pn pg v → cd pn pg v < cd pn pg 0 → 48 ≤ cd pn pg (v + 1) → cd pn pg (v + 1) < cd pn pg 0 → cd pn pg (v + 1) ≠ cd pn pg v → ¬ (49 ≤ cd pn pg (v + 2) ∧ cd pn pg (v + 2) ≤ 57) → post (nI (v + 2)) M) (g3 : 48 ≤ cd pn pg v → cd pn pg v < cd pn pg 0 → 48 ≤ cd pn pg (v + 1) → cd pn pg (v + 1) < cd pn pg 0 → cd pn pg (v + 1) ≠ cd pn pg v → 49 ≤ cd pn pg (v + 2) → cd pn pg (v + 2) ≤ 57 → post (nI (v + 3)) M) : w_X12_readPassage (nI v) (nI (cd pn pg 0 - 49)) M post := by
  have c1 := cd_le hP.2.2.2 v
  have c2 := cd_le hP.2.2.2 (v + 1)
  have e1 : nI v + 1 = nI (v + 1) := nI_1 v
  have e2 : nI v + 2 = nI (v + 2) := by rw [pi_2, nI_add]
  have e3 : nI v + 3 = nI (v + 3) := by rw [pi_3, nI_add]
  unfold w_X12_readPassage
  rw [e1, e2, e3]
  refine sM_figure (lo := 0) hP (by omega) (by omega) (by omega) (fun a b => pn_1 ?_) (fun a => pn_0 (g0 (by omega)))
  refine sM_figure (lo := 0) hP (by omega) (by omega) (by omega) (fun a2 b2 => pb_1 ?_) (fun a2 => pb_0 (g1 (by omega) (by omega) (by omega)))
  refine hP.at (by omega) (hP.at (by omega) (re_ (cd pn pg v) (cd pn pg (v + 1)) (fun z => ?_) (fun z => g1 (by omega) (by omega) (by omega))))
  exact sM_figure (lo := 1) (hi := 9) hP (by omega) (by omega) (by omega) (fun a3 b3 => pb_1 (g3 (by omega) (by omega) (by omega) (by omega) (by omega) (by omega) (by omega))) (fun a3 => pb_0 (g2 (by omega) (by omega) (by omega) (by omega) (by omega) (by omega)))
theorem sM_rQ {pn v : Nat} {pg : Nat → Nat} {M : Mm} {post : Int32 → Mm → Prop} (hP : MP pn pg M) (hv : v ≤ 100) (g0 : ¬ kd (cd pn pg v) → post (nI v) M) (g1 : kd (cd pn pg v) → ¬ (48 ≤ cd pn pg (v + 1) ∧ cd pn pg (v + 1) ≤ 57) → post (nI (v + 1)) M) (g2 : kd (cd pn pg v) → 48 ≤ cd pn pg (v + 1) → cd pn pg (v + 1) ≤ 57 → ¬ (48 ≤ cd pn pg (v + 2) ∧ cd pn pg (v + 2) ≤ 57) → post (nI (v + 2)) M) (g3 : kd (cd pn pg v) → 48 ≤ cd pn pg (v + 1) → cd pn pg (v + 1) ≤ 57 → 48 ≤ cd pn pg (v + 2) → cd pn pg (v + 2) ≤ 57 → post (nI (v + 3)) M) : w_X12_readPerson (nI v) M post := by
  have c1 := cd_le hP.2.2.2 v
  have e1 : nI v + 1 = nI (v + 1) := nI_1 v
  have e2 : nI v + 2 = nI (v + 2) := by rw [pi_2, nI_add]
  have e3 : nI v + 3 = nI (v + 3) := by rw [pi_3, nI_add]
  unfold w_X12_readPerson
  rw [e1, e2, e3]
  refine hP.at (by omega) (sM_kindBy c1 ?_)
  rcases kix_or (cd pn pg v) with ⟨q, j, j4, e⟩ | ⟨q, e⟩
  · rw [e]
    refine pn_f (ne_m1 (by omega)) ?_
    refine sM_figure (lo := 0) (hi := 9) hP (by omega) (by omega) (by omega) (fun a b => pn_1 ?_) (fun a => pn_0 (g1 q (by omega)))
    exact sM_figure (lo := 0) (hi := 9) hP (by omega) (by omega) (by omega) (fun a2 b2 => pb_1 (g3 q (by omega) (by omega) (by omega) (by omega))) (fun a2 => pb_0 (g2 q (by omega) (by omega) (by omega)))
  · rw [e]
    exact pn_t rfl (g0 q)
def RD (pn : Nat) (c : Nat → Nat) (B r : Nat) (M : Mm) : Prop := OkF pn c B r ∧ ((M.1 0 21 = 1 ∧ r = pn ∧ ∃ np nq, 1 ≤ np ∧ np ≤ 7 ∧ 1 ≤ nq ∧ nq ≤ 5 ∧ B = 4 * np + 1 ∧ pn = B + 4 * nq ∧ M.1 0 22 = nI np ∧ M.1 0 23 = nI nq) ∨ (M.1 0 21 = 0 ∧ ¬ (r = pn ∧ B < pn ∧ (pn - B) % 4 = 0)))
theorem kd_pos {c : Nat} (h : kd c) : c ≠ 0 := by unfold kd at h; omega
/-- a place among the people: what fits there -/
theorem fitQ {c : Nat → Nat} {B k : Nat} (h2 : 2 ≤ k) (hk : B < k) : Fit c B k ↔ (((k - B - 1) % 4 = 0 → kd (c k)) ∧ ((k - B - 1) % 4 = 1 ∨ (k - B - 1) % 4 = 2 → 48 ≤ c k ∧ c k ≤ 57) ∧ ((k - B - 1) % 4 = 3 → c k = 44 ∧ k - B - 1 < 16)) := ⟨fun q => q.2.2.2 h2 hk, fun q => ⟨fun z => absurd z (by omega), fun z => absurd z (by omega), fun _ z => absurd z (by omega), fun _ _ => q⟩⟩
theorem fitP {c : Nat → Nat} {B k : Nat} (h2 : 2 ≤ k) (hk : k < B) : Fit c B k ↔ (((k - 2) % 4 = 0 → 48 ≤ c k ∧ c k < c 0) ∧ ((k - 2) % 4 = 1 → 48 ≤ c k ∧ c k < c 0 ∧ c k ≠ c (k - 1)) ∧ ((k - 2) % 4 = 2 → 49 ≤ c k ∧ c k ≤ 57) ∧ ((k - 2) % 4 = 3 → c k = 44 ∧ k < 26)) := ⟨fun q => q.2.2.1 h2 hk, fun q => ⟨fun z => absurd z (by omega), fun z => absurd z (by omega), fun _ _ => q, fun _ z => absurd z (by omega)⟩⟩
theorem sM_people {pn B np : Nat} {pg : Nat → Nat} {M0 : Mm} {post : Int32 → Mm → Prop} (hP0 : MP pn pg M0) (hn1 : 1 ≤ np) (hn7 : np ≤ 7) (hB : B = 4 * np + 1) (hBp : B < pn) (h : ∀ r M1, o3 M0 M1 → RD pn (cd pn pg) B r M1 → post (nI r) M1) : ∀ m i (M : Mm), i + (m + 1) = 5 → o3 M0 M → M.1 0 21 = 0 → M.1 0 22 = nI np → M.1 0 23 = nI i → B + 1 + 4 * i ≤ pn → (∀ k, k < B + 1 + 4 * i → Fit (cd pn pg) B k) → w_X12_readPeople_2 post (m + 1) (nI (B + 1 + 4 * i)) M := by
  have h52 := hP0.2.1
  intro m
  induction m with
  | zero =>
    intro i M hi oM e21 e22 e23 hu hF
    obtain rfl : i = 4 := by omega
    have hP := oM.mp hP0
    generalize hv : B + 1 + 4 * 4 = v at hu hF ⊢
    have flag : ∀ r, r < v + 3 → v ≤ r → OkF pn (cd pn pg) B r → RD pn (cd pn pg) B r M := fun r h1 h2 h3 => ⟨h3, Or.inr ⟨e21, by omega⟩⟩
    have bad : ∀ r, r < v + 3 → v ≤ r → r ≤ pn → (∀ k, k < r → Fit (cd pn pg) B k) → ¬ Fit (cd pn pg) B r → ((nI r = nI v + 3) → ∀ M13 : Mm, M13 = wI M 0 (upd (M.1 0) 23 ((M.1 0 23) + (1 : Int32))) → (((¬ nI r = (M13.1 0 19)) → (w_X12_readPeople_51 post (w_X12_readPeople_2 post 0) (nI r) (0 : Int32) M13)) ∧ ((nI r = (M13.1 0 19)) → (w_X12_readPeople_51 post (w_X12_readPeople_2 post 0) (nI r) (1 : Int32) M13)))) ∧ ((¬ nI r = nI v + 3) → post (nI r) M) := by
      intro r h1 h2 h3 h4 h5
      have e3 : nI v + 3 = nI (v + 3) := by rw [pi_3, nI_add]
      rw [e3]
      exact pb_f (fun q => by have := (nI_eq (by omega) (by omega)).mp q; omega) (h r M oM (flag r h1 h2 ⟨h3, h4, fun _ => h5⟩))
    refine pb_f (by rw [e23]; decide) ?_
    refine sM_rQ hP (by omega) (fun q => bad v (by omega) (Nat.le_refl _) hu hF (fun z => q (((fitQ (by omega) (by omega)).mp z).1 (by omega)))) (fun q1 q => ?_) (fun q1 q2 q3 q => ?_) (fun q1 q2 q3 q4 q5 => ?_)
    · have l1 := cd_in (kd_pos q1)
      have f1 : ∀ k, k < v + 1 → Fit (cd pn pg) B k := fun k hk => by
        by_cases w : k = v
        · rw [w, fitQ (by omega) (by omega)]; exact ⟨fun _ => q1, by omega, by omega⟩
        · exact hF k (by omega)
      exact bad (v + 1) (by omega) (by omega) (by omega) f1 (fun z => q (((fitQ (by omega) (by omega)).mp z).2.1 (by omega)))
    · have l1 := cd_in (show cd pn pg (v + 1) ≠ 0 by omega)
      have f1 : ∀ k, k < v + 2 → Fit (cd pn pg) B k := fun k hk => by
        by_cases w : k = v
        · rw [w, fitQ (by omega) (by omega)]; exact ⟨fun _ => q1, by omega, by omega⟩
        · by_cases w1 : k = v + 1
          · rw [w1, fitQ (by omega) (by omega)]; exact ⟨fun y => absurd y (by omega), fun _ => ⟨q2, q3⟩, by omega⟩
          · exact hF k (by omega)
      exact bad (v + 2) (by omega) (by omega) (by omega) f1 (fun z => q (((fitQ (by omega) (by omega)).mp z).2.1 (by omega)))
    · have l1 := cd_in (show cd pn pg (v + 2) ≠ 0 by omega)
      have f1 : ∀ k, k < v + 3 → Fit (cd pn pg) B k := fun k hk => by
        by_cases w : k = v
        · rw [w, fitQ (by omega) (by omega)]; exact ⟨fun _ => q1, by omega, by omega⟩
        · by_cases w1 : k = v + 1
          · rw [w1, fitQ (by omega) (by omega)]; exact ⟨fun y => absurd y (by omega), fun _ => ⟨q2, q3⟩, by omega⟩
          · by_cases w2 : k = v + 2
            · rw [w2, fitQ (by omega) (by omega)]; exact ⟨fun y => absurd y (by omega), fun _ => ⟨q4, q5⟩, by omega⟩
            · exact hF k (by omega)
      have e3 : nI v + 3 = nI (v + 3) := by rw [pi_3, nI_add]
      rw [e3]
      refine pb_t rfl (fun M13 e13 => ?_)
      rw [e23, nI_1] at e13
      have o13 := o3.w (Or.inr (Or.inr rfl)) e13
      have p13 := (oM.tr o13).mp hP0
      rw [p13.1]
      unfold w_X12_readPeople_51
      refine re_ (v + 3) pn (fun z M1 d1 => ?_) (fun z M1 d1 => ?_)
      · have od := o3.w (Or.inl rfl) d1
        have s23 : M1.1 0 23 = nI 5 := by rw [d1, wI_same, pk_un (by decide), e13, wI_same, pk_us]
        refine pb_t s23 (h (v + 3) M1 ((oM.tr o13).tr od) ⟨⟨by omega, f1, fun _ => ?_⟩, Or.inr ⟨?_, by omega⟩⟩)
        · rw [fitQ (by omega) (by omega)]
          omega
        · rw [d1, wI_same, pk_us]
      · have od := o3.w (Or.inl rfl) d1
        have s23 : M1.1 0 23 = nI 5 := by rw [d1, wI_same, pk_un (by decide), e13, wI_same, pk_us]
        refine pb_t s23 (h (v + 3) M1 ((oM.tr o13).tr od) ⟨⟨by omega, f1, fun q => absurd q (by omega)⟩, Or.inl ⟨?_, z, np, 5, hn1, hn7, by decide, by decide, hB, by omega, ?_, s23⟩⟩)
        · rw [d1, wI_same, pk_us]
        · rw [d1, wI_same, pk_un (by decide), e13, wI_same, pk_un (by decide)]
          exact e22
  | succ m ih =>
    intro i M hi oM e21 e22 e23 hu hF
    have hP := oM.mp hP0
    generalize hv : B + 1 + 4 * i = v at hu hF ⊢
    have flag : ∀ r, r < v + 3 → v ≤ r → OkF pn (cd pn pg) B r → RD pn (cd pn pg) B r M := fun r h1 h2 h3 => ⟨h3, Or.inr ⟨e21, by omega⟩⟩
    have bad : ∀ r, r < v + 3 → v ≤ r → r ≤ pn → (∀ k, k < r → Fit (cd pn pg) B k) → ¬ Fit (cd pn pg) B r → ((nI r = nI v + 3) → ∀ M13 : Mm, M13 = wI M 0 (upd (M.1 0) 23 ((M.1 0 23) + (1 : Int32))) → (((¬ nI r = (M13.1 0 19)) → (w_X12_readPeople_51 post (w_X12_readPeople_2 post (m + 1)) (nI r) (0 : Int32) M13)) ∧ ((nI r = (M13.1 0 19)) → (w_X12_readPeople_51 post (w_X12_readPeople_2 post (m + 1)) (nI r) (1 : Int32) M13)))) ∧ ((¬ nI r = nI v + 3) → post (nI r) M) := by
      intro r h1 h2 h3 h4 h5
      have e3 : nI v + 3 = nI (v + 3) := by rw [pi_3, nI_add]
      rw [e3]
      exact pb_f (fun q => by have := (nI_eq (by omega) (by omega)).mp q; omega) (h r M oM (flag r h1 h2 ⟨h3, h4, fun _ => h5⟩))
    refine pk_le 5 i (fun z => absurd z (by omega)) (fun _ => ?_) rfl e23
    refine sM_rQ hP (by omega) (fun q => bad v (by omega) (Nat.le_refl _) hu hF (fun z => q (((fitQ (by omega) (by omega)).mp z).1 (by omega)))) (fun q1 q => ?_) (fun q1 q2 q3 q => ?_) (fun q1 q2 q3 q4 q5 => ?_)
    · have l1 := cd_in (kd_pos q1)
      have f1 : ∀ k, k < v + 1 → Fit (cd pn pg) B k := fun k hk => by
        by_cases w : k = v
        · rw [w, fitQ (by omega) (by omega)]; exact ⟨fun _ => q1, by omega, by omega⟩
        · exact hF k (by omega)
      exact bad (v + 1) (by omega) (by omega) (by omega) f1 (fun z => q (((fitQ (by omega) (by omega)).mp z).2.1 (by omega)))
    · have l1 := cd_in (show cd pn pg (v + 1) ≠ 0 by omega)
      have f1 : ∀ k, k < v + 2 → Fit (cd pn pg) B k := fun k hk => by
        by_cases w : k = v
        · rw [w, fitQ (by omega) (by omega)]; exact ⟨fun _ => q1, by omega, by omega⟩
        · by_cases w1 : k = v + 1
          · rw [w1, fitQ (by omega) (by omega)]; exact ⟨fun y => absurd y (by omega), fun _ => ⟨q2, q3⟩, by omega⟩
          · exact hF k (by omega)
      exact bad (v + 2) (by omega) (by omega) (by omega) f1 (fun z => q (((fitQ (by omega) (by omega)).mp z).2.1 (by omega)))
    · have l1 := cd_in (show cd pn pg (v + 2) ≠ 0 by omega)
      have f1 : ∀ k, k < v + 3 → Fit (cd pn pg) B k := fun k hk => by
        by_cases w : k = v
        · rw [w, fitQ (by omega) (by omega)]; exact ⟨fun _ => q1, by omega, by omega⟩
        · by_cases w1 : k = v + 1
          · rw [w1, fitQ (by omega) (by omega)]; exact ⟨fun y => absurd y (by omega), fun _ => ⟨q2, q3⟩, by omega⟩
          · by_cases w2 : k = v + 2
            · rw [w2, fitQ (by omega) (by omega)]; exact ⟨fun y => absurd y (by omega), fun _ => ⟨q4, q5⟩, by omega⟩
            · exact hF k (by omega)
      have e3 : nI v + 3 = nI (v + 3) := by rw [pi_3, nI_add]
      rw [e3]
      refine pb_t rfl (fun M13 e13 => ?_)
      rw [e23, nI_1] at e13
      have o13 := o3.w (Or.inr (Or.inr rfl)) e13
      have p13 := (oM.tr o13).mp hP0
      rw [p13.1]
      unfold w_X12_readPeople_51
      refine re_ (v + 3) pn (fun z M1 d1 => ?_) (fun z M1 d1 => ?_)
      · have od := o3.w (Or.inl rfl) d1
        have s23 : M1.1 0 23 = nI (i + 1) := by rw [d1, wI_same, pk_un (by decide), e13, wI_same, pk_us]
        have s22 : M1.1 0 22 = nI np := by rw [d1, wI_same, pk_un (by decide), e13, wI_same, pk_un (by decide)]; exact e22
        have s21 : M1.1 0 21 = 0 := by rw [d1, wI_same, pk_us]
        have oA := (oM.tr o13).tr od
        have pA := oA.mp hP0
        have cA := cd_le pA.2.2.2 (v + 3)
        refine pb_f (fun q => by rw [s23] at q; have := (nI_eq (b := 5) (by omega) (by decide)).mp q; omega) (pA.at (by omega) (pk_eq (cd pn pg (v + 3)) 44 (fun y => ?_) (fun y => ?_)))
        · have e4 : nI (v + 3) + 1 = nI (B + 1 + 4 * (i + 1)) := by
            rw [nI_1]
            exact congrArg nI (by omega)
          rw [e4]
          refine ih (i + 1) M1 (by omega) oA s21 s22 s23 (by omega) (fun k hk => ?_)
          by_cases w : k = v + 3
          · rw [w, fitQ (by omega) (by omega)]
            exact ⟨fun x => absurd x (by omega), fun x => absurd x (by omega), fun _ => ⟨y, by omega⟩⟩
          · exact f1 k (by omega)
        · refine h (v + 3) M1 oA ⟨⟨by omega, f1, fun _ x => y ?_⟩, Or.inr ⟨s21, by omega⟩⟩
          exact (((fitQ (by omega) (by omega)).mp x).2.2 (by omega)).1
      · have od := o3.w (Or.inl rfl) d1
        have s23 : M1.1 0 23 = nI (i + 1) := by rw [d1, wI_same, pk_un (by decide), e13, wI_same, pk_us]
        have s22 : M1.1 0 22 = nI np := by rw [d1, wI_same, pk_un (by decide), e13, wI_same, pk_un (by decide)]; exact e22
        have s21 : M1.1 0 21 = 1 := by rw [d1, wI_same, pk_us]
        have oA := (oM.tr o13).tr od
        have pA := oA.mp hP0
        refine pb_f (fun q => by rw [s23] at q; have := (nI_eq (b := 5) (by omega) (by decide)).mp q; omega) (pA.at (by omega) ?_)
        have c0 : cd pn pg (v + 3) = 0 := if_neg (by omega)
        rw [c0]
        exact pb_f (by decide) (h (v + 3) M1 oA ⟨⟨by omega, f1, fun q => absurd q (by omega)⟩, Or.inl ⟨s21, z, np, i + 1, hn1, hn7, by omega, by omega, hB, by omega, s22, s23⟩⟩)
theorem sM_passages {pn B : Nat} {pg : Nat → Nat} {M0 : Mm} {post : Int32 → Mm → Prop} (hP0 : MP pn pg M0) (hB : IsB pn (cd pn pg) B) (h0c : 50 ≤ cd pn pg 0 ∧ cd pn pg 0 ≤ 53) (h : ∀ r M1, o3 M0 M1 → RD pn (cd pn pg) B r M1 → post (nI r) M1) : ∀ m j (M : Mm), j + (m + 1) = 7 → o3 M0 M → M.1 0 21 = 0 → M.1 0 22 = nI j → M.1 0 23 = nI 0 → 2 + 4 * j ≤ pn → (∀ k, k < 2 + 4 * j → Fit (cd pn pg) B k) → (∀ i, i < j → cd pn pg (5 + 4 * i) = 44) → w_X12_read_41 post (m + 1) (nI (2 + 4 * j)) M := by
  have h52 := hP0.2.1
  have Bl := hB.le
  intro m
  induction m with
  | zero =>
    intro j M hj oM e21 e22 e23 hu hF hS
    obtain rfl : j = 6 := by omega
    have hP := oM.mp hP0
    have gb : 5 + 4 * 6 ≤ B ∨ B = pn := by
      rcases hB with q | ⟨J, q1, q2, q3, q4⟩
      · exact Or.inr q.1
      · refine Or.inl ?_
        by_cases w : J < 6
        · have := hS J w
          rw [q1] at q3
          omega
        · omega
    generalize hv : 2 + 4 * 6 = v at hu hF ⊢
    have kB : ∀ k, k < v + 3 → k < pn → k < B := fun k h1 h2 => by omega
    have bad : ∀ r, r < v + 3 → v ≤ r → r ≤ pn → (∀ k, k < r → Fit (cd pn pg) B k) → (r < pn → ¬ Fit (cd pn pg) B r) → ((nI r = nI v + 3) → ∀ M9 : Mm, M9 = wI M 0 (upd (M.1 0) 22 ((M.1 0 22) + (1 : Int32))) → w_X12_at (nI r) M9 (fun r11 M12 => ((¬ r11 = (59 : Int32)) → ((((M12.1 0 22) = (7 : Int32)) → (post (nI r) M12)) ∧ ((¬ (M12.1 0 22) = (7 : Int32)) → (w_X12_at (nI r) M12 (fun r16 M17 => ((r16 = (44 : Int32)) → (w_X12_read_41 post 0 (nI r + 1) M17)) ∧ ((¬ r16 = (44 : Int32)) → (post (nI r) M17))))))) ∧ ((r11 = (59 : Int32)) → (w_X12_readPeople (nI r + (1 : Int32)) M12 (fun r20 M21 => post r20 M21))))) ∧ ((¬ nI r = nI v + 3) → post (nI r) M) := by
      intro r h1 h2 h3 h4 h5
      have e3 : nI v + 3 = nI (v + 3) := by rw [pi_3, nI_add]
      rw [e3]
      exact pb_f (fun q => by have := (nI_eq (by omega) (by omega)).mp q; omega) (h r M oM ⟨⟨h3, h4, h5⟩, Or.inr ⟨e21, by omega⟩⟩)
    refine pb_f (by rw [e22]; decide) (hP.at (k := 0) (by omega) ?_)
    have e49 : nI (cd pn pg 0) - 49 = nI (cd pn pg 0 - 49) := by rw [show (49 : Int32) = nI 49 from rfl, pk_sub (by omega)]
    rw [e49]
    refine sM_rP hP (by omega) h0c (fun q => bad v (by omega) (Nat.le_refl _) hu hF (fun w z => q (((fitP (by omega) (kB v (by omega) w)).mp z).1 (by omega)))) (fun q1 q2 q => ?_) (fun q1 q2 q3 q4 q5 q => ?_) (fun q1 q2 q3 q4 q5 q6 q7 => ?_)
    · have l1 := cd_in (show cd pn pg v ≠ 0 by omega)
      have f1 : ∀ k, k < v + 1 → Fit (cd pn pg) B k := fun k hk => by
        by_cases w : k = v
        · rw [w, fitP (by omega) (kB v (by omega) l1)]; exact ⟨fun _ => ⟨q1, q2⟩, by omega, by omega, by omega⟩
        · exact hF k (by omega)
      refine bad (v + 1) (by omega) (by omega) (by omega) f1 (fun w z => q ?_)
      have := ((fitP (by omega) (kB (v + 1) (by omega) w)).mp z).2.1 (by omega)
      rw [show v + 1 - 1 = v by omega] at this
      exact this
    · have l0 := cd_in (show cd pn pg v ≠ 0 by omega)
      have l1 := cd_in (show cd pn pg (v + 1) ≠ 0 by omega)
      have f1 : ∀ k, k < v + 2 → Fit (cd pn pg) B k := fun k hk => by
        by_cases w : k = v
        · rw [w, fitP (by omega) (kB v (by omega) l0)]; exact ⟨fun _ => ⟨q1, q2⟩, by omega, by omega, by omega⟩
        · by_cases w1 : k = v + 1
          · rw [w1, fitP (by omega) (kB (v + 1) (by omega) l1), show v + 1 - 1 = v by omega]; exact ⟨by omega, fun _ => ⟨q3, q4, q5⟩, by omega, by omega⟩
          · exact hF k (by omega)
      exact bad (v + 2) (by omega) (by omega) (by omega) f1 (fun w z => q (((fitP (by omega) (kB (v + 2) (by omega) w)).mp z).2.2.1 (by omega)))
    · have l0 := cd_in (show cd pn pg v ≠ 0 by omega)
      have l1 := cd_in (show cd pn pg (v + 1) ≠ 0 by omega)
      have l2 := cd_in (show cd pn pg (v + 2) ≠ 0 by omega)
      have f1 : ∀ k, k < v + 3 → Fit (cd pn pg) B k := fun k hk => by
        by_cases w : k = v
        · rw [w, fitP (by omega) (kB v (by omega) l0)]; exact ⟨fun _ => ⟨q1, q2⟩, by omega, by omega, by omega⟩
        · by_cases w1 : k = v + 1
          · rw [w1, fitP (by omega) (kB (v + 1) (by omega) l1), show v + 1 - 1 = v by omega]; exact ⟨by omega, fun _ => ⟨q3, q4, q5⟩, by omega, by omega⟩
          · by_cases w2 : k = v + 2
            · rw [w2, fitP (by omega) (kB (v + 2) (by omega) l2)]; exact ⟨by omega, by omega, fun _ => ⟨q6, q7⟩, by omega⟩
            · exact hF k (by omega)
      have e3 : nI v + 3 = nI (v + 3) := by rw [pi_3, nI_add]
      rw [e3]
      refine pb_t rfl (fun M9 e9 => ?_)
      rw [e22, nI_1] at e9
      have o9 := o3.w (Or.inr (Or.inl rfl)) e9
      have oA := oM.tr o9
      have pA := oA.mp hP0
      have s21 : M9.1 0 21 = 0 := by rw [e9, wI_same, pk_un (by decide)]; exact e21
      have s22 : M9.1 0 22 = nI 7 := by rw [e9, wI_same, pk_us]
      have s23 : M9.1 0 23 = nI 0 := by rw [e9, wI_same, pk_un (by decide)]; exact e23
      have cA := cd_le pA.2.2.2 (v + 3)
      refine pA.at (by omega) (re_ (cd pn pg (v + 3)) 59 (fun y => ?_) (fun y => ?_))
      · refine pb_t s22 (h (v + 3) M9 oA ⟨⟨by omega, f1, fun w x => ?_⟩, Or.inr ⟨s21, ?_⟩⟩)
        · have hb : v + 3 < B := by
            rcases gb with g | g
            · rcases hB with q | ⟨J, p1, p2, p3, p4⟩
              · omega
              · have : B ≠ v + 3 := fun z => by rw [z] at p3; exact y p3
                omega
            · omega
          have := ((fitP (by omega) hb).mp x).2.2.2 (by omega)
          omega
        · omega
      · have l3 := cd_in (show cd pn pg (v + 3) ≠ 0 by omega)
        have hBe : B = v + 3 := by
          rcases hB with q | ⟨J, p1, p2, p3, p4⟩
          · have := q.2 6 (by omega)
            rw [show 5 + 4 * 6 = v + 3 by omega] at this
            exact absurd y this
          · by_cases w : 6 < J
            · have := p4 6 w
              rw [show 5 + 4 * 6 = v + 3 by omega] at this
              exact absurd y this
            · omega
        unfold w_X12_readPeople
        refine ⟨5, ?_⟩
        have e4 : nI (v + 3) + 1 = nI (B + 1 + 4 * 0) := by
          rw [nI_1]
          exact congrArg nI (by omega)
        rw [e4]
        refine sM_people (np := 7) hP0 (by decide) (by decide) (by omega) (by omega) h 4 0 M9 rfl oA s21 s22 s23 (by omega) (fun k hk => ?_)
        by_cases w : k = v + 3
        · rw [w]
          exact ⟨fun x => absurd x (by omega), fun x => absurd x (by omega), fun _ x => absurd x (by omega), fun _ x => absurd x (by omega)⟩
        · exact f1 k (by omega)
  | succ m ih =>
    intro j M hj oM e21 e22 e23 hu hF hS
    have hP := oM.mp hP0
    have gb : 5 + 4 * j ≤ B ∨ B = pn := by
      rcases hB with q | ⟨J, q1, q2, q3, q4⟩
      · exact Or.inr q.1
      · refine Or.inl ?_
        by_cases w : J < j
        · have := hS J w
          rw [q1] at q3
          omega
        · omega
    generalize hv : 2 + 4 * j = v at hu hF ⊢
    have kB : ∀ k, k < v + 3 → k < pn → k < B := fun k h1 h2 => by omega
    have bad : ∀ r, r < v + 3 → v ≤ r → r ≤ pn → (∀ k, k < r → Fit (cd pn pg) B k) → (r < pn → ¬ Fit (cd pn pg) B r) → ((nI r = nI v + 3) → ∀ M9 : Mm, M9 = wI M 0 (upd (M.1 0) 22 ((M.1 0 22) + (1 : Int32))) → w_X12_at (nI r) M9 (fun r11 M12 => ((¬ r11 = (59 : Int32)) → ((((M12.1 0 22) = (7 : Int32)) → (post (nI r) M12)) ∧ ((¬ (M12.1 0 22) = (7 : Int32)) → (w_X12_at (nI r) M12 (fun r16 M17 => ((r16 = (44 : Int32)) → (w_X12_read_41 post (m + 1) (nI r + 1) M17)) ∧ ((¬ r16 = (44 : Int32)) → (post (nI r) M17))))))) ∧ ((r11 = (59 : Int32)) → (w_X12_readPeople (nI r + (1 : Int32)) M12 (fun r20 M21 => post r20 M21))))) ∧ ((¬ nI r = nI v + 3) → post (nI r) M) := by
      intro r h1 h2 h3 h4 h5
      have e3 : nI v + 3 = nI (v + 3) := by rw [pi_3, nI_add]
      rw [e3]
      exact pb_f (fun q => by have := (nI_eq (by omega) (by omega)).mp q; omega) (h r M oM ⟨⟨h3, h4, h5⟩, Or.inr ⟨e21, by omega⟩⟩)
    refine pk_le 7 j (fun z => absurd z (by omega)) (fun _ => hP.at (k := 0) (by omega) ?_) rfl e22
    have e49 : nI (cd pn pg 0) - 49 = nI (cd pn pg 0 - 49) := by rw [show (49 : Int32) = nI 49 from rfl, pk_sub (by omega)]
    rw [e49]
    refine sM_rP hP (by omega) h0c (fun q => bad v (by omega) (Nat.le_refl _) hu hF (fun w z => q (((fitP (by omega) (kB v (by omega) w)).mp z).1 (by omega)))) (fun q1 q2 q => ?_) (fun q1 q2 q3 q4 q5 q => ?_) (fun q1 q2 q3 q4 q5 q6 q7 => ?_)
    · have l1 := cd_in (show cd pn pg v ≠ 0 by omega)
      have f1 : ∀ k, k < v + 1 → Fit (cd pn pg) B k := fun k hk => by
        by_cases w : k = v
        · rw [w, fitP (by omega) (kB v (by omega) l1)]; exact ⟨fun _ => ⟨q1, q2⟩, by omega, by omega, by omega⟩
        · exact hF k (by omega)
      refine bad (v + 1) (by omega) (by omega) (by omega) f1 (fun w z => q ?_)
      have := ((fitP (by omega) (kB (v + 1) (by omega) w)).mp z).2.1 (by omega)
      rw [show v + 1 - 1 = v by omega] at this
      exact this
    · have l0 := cd_in (show cd pn pg v ≠ 0 by omega)
      have l1 := cd_in (show cd pn pg (v + 1) ≠ 0 by omega)
      have f1 : ∀ k, k < v + 2 → Fit (cd pn pg) B k := fun k hk => by
        by_cases w : k = v
        · rw [w, fitP (by omega) (kB v (by omega) l0)]; exact ⟨fun _ => ⟨q1, q2⟩, by omega, by omega, by omega⟩
        · by_cases w1 : k = v + 1
          · rw [w1, fitP (by omega) (kB (v + 1) (by omega) l1), show v + 1 - 1 = v by omega]; exact ⟨by omega, fun _ => ⟨q3, q4, q5⟩, by omega, by omega⟩
          · exact hF k (by omega)
      exact bad (v + 2) (by omega) (by omega) (by omega) f1 (fun w z => q (((fitP (by omega) (kB (v + 2) (by omega) w)).mp z).2.2.1 (by omega)))
    · have l0 := cd_in (show cd pn pg v ≠ 0 by omega)
      have l1 := cd_in (show cd pn pg (v + 1) ≠ 0 by omega)
      have l2 := cd_in (show cd pn pg (v + 2) ≠ 0 by omega)
      have f1 : ∀ k, k < v + 3 → Fit (cd pn pg) B k := fun k hk => by
        by_cases w : k = v
        · rw [w, fitP (by omega) (kB v (by omega) l0)]; exact ⟨fun _ => ⟨q1, q2⟩, by omega, by omega, by omega⟩
        · by_cases w1 : k = v + 1
          · rw [w1, fitP (by omega) (kB (v + 1) (by omega) l1), show v + 1 - 1 = v by omega]; exact ⟨by omega, fun _ => ⟨q3, q4, q5⟩, by omega, by omega⟩
          · by_cases w2 : k = v + 2
            · rw [w2, fitP (by omega) (kB (v + 2) (by omega) l2)]; exact ⟨by omega, by omega, fun _ => ⟨q6, q7⟩, by omega⟩
            · exact hF k (by omega)
      have e3 : nI v + 3 = nI (v + 3) := by rw [pi_3, nI_add]
      rw [e3]
      refine pb_t rfl (fun M9 e9 => ?_)
      rw [e22, nI_1] at e9
      have o9 := o3.w (Or.inr (Or.inl rfl)) e9
      have oA := oM.tr o9
      have pA := oA.mp hP0
      have s21 : M9.1 0 21 = 0 := by rw [e9, wI_same, pk_un (by decide)]; exact e21
      have s22 : M9.1 0 22 = nI (j + 1) := by rw [e9, wI_same, pk_us]
      have s23 : M9.1 0 23 = nI 0 := by rw [e9, wI_same, pk_un (by decide)]; exact e23
      have cA := cd_le pA.2.2.2 (v + 3)
      refine pA.at (by omega) (re_ (cd pn pg (v + 3)) 59 (fun y => ?_) (fun y => ?_))
      · have hb : v + 3 < pn → v + 3 < B := by
          intro w
          rcases gb with g | g
          · rcases hB with q | ⟨J, p1, p2, p3, p4⟩
            · omega
            · have : B ≠ v + 3 := fun z => by rw [z] at p3; exact y p3
              omega
          · omega
        refine pb_f (fun q => by rw [s22] at q; have := (nI_eq (b := 7) (by omega) (by decide)).mp q; omega) (pA.at (by omega) (pk_eq (cd pn pg (v + 3)) 44 (fun x => ?_) (fun x => ?_)))
        · have l3 := cd_in (show cd pn pg (v + 3) ≠ 0 by omega)
          have e4 : nI (v + 3) + 1 = nI (2 + 4 * (j + 1)) := by
            rw [nI_1]
            exact congrArg nI (by omega)
          rw [e4]
          refine ih (j + 1) M9 (by omega) oA s21 s22 s23 (by omega) (fun k hk => ?_) (fun i hi => ?_)
          · by_cases w : k = v + 3
            · rw [w, fitP (by omega) (hb l3)]
              exact ⟨by omega, by omega, by omega, fun _ => ⟨x, by omega⟩⟩
            · exact f1 k (by omega)
          · by_cases w : i = j
            · rw [w, show 5 + 4 * j = v + 3 by omega]
              exact x
            · exact hS i (by omega)
        · refine h (v + 3) M9 oA ⟨⟨by omega, f1, fun w z => x ?_⟩, Or.inr ⟨s21, ?_⟩⟩
          · exact (((fitP (by omega) (hb w)).mp z).2.2.2 (by omega)).1
          · omega
      · have l3 := cd_in (show cd pn pg (v + 3) ≠ 0 by omega)
        have hBe : B = v + 3 := by
          rcases hB with q | ⟨J, p1, p2, p3, p4⟩
          · have := q.2 j (by omega)
            rw [show 5 + 4 * j = v + 3 by omega] at this
            exact absurd y this
          · by_cases w : j < J
            · have := p4 j w
              rw [show 5 + 4 * j = v + 3 by omega] at this
              exact absurd y this
            · omega
        unfold w_X12_readPeople
        refine ⟨5, ?_⟩
        have e4 : nI (v + 3) + 1 = nI (B + 1 + 4 * 0) := by
          rw [nI_1]
          exact congrArg nI (by omega)
        rw [e4]
        refine sM_people (np := j + 1) hP0 (by omega) (by omega) (by omega) (by omega) h 4 0 M9 rfl oA s21 s22 s23 (by omega) (fun k hk => ?_)
        by_cases w : k = v + 3
        · rw [w]
          exact ⟨fun x => absurd x (by omega), fun x => absurd x (by omega), fun _ x => absurd x (by omega), fun _ x => absurd x (by omega)⟩
        · exact f1 k (by omega)
theorem sM_read {pn B : Nat} {pg : Nat → Nat} {M : Mm} {post : Int32 → Mm → Prop} (hP : MP pn pg M) (hB : IsB pn (cd pn pg) B) (h : ∀ r M1, o3 M M1 → RD pn (cd pn pg) B r M1 → post (nI r) M1) : w_X12_read M post := by
  have h52 := hP.2.1
  have Bl := hB.le
  unfold w_X12_read
  intro M23 e23 M25 e25 M27 e27
  have o1 := o3.w (Or.inl rfl) e23
  have o2 := o3.w (Or.inr (Or.inl rfl)) e25
  have o4 := o3.w (Or.inr (Or.inr rfl)) e27
  have oA := (o1.tr o2).tr o4
  have pA := oA.mp hP
  have s21 : M27.1 0 21 = 0 := by rw [e27, wI_same, pk_un (by decide), e25, wI_same, pk_un (by decide), e23, wI_same, pk_us]
  have s22 : M27.1 0 22 = nI 0 := by rw [e27, wI_same, pk_un (by decide), e25, wI_same, pk_us]; rfl
  have s23 : M27.1 0 23 = nI 0 := by rw [e27, wI_same, pk_us]; rfl
  have c1 := cd_le pA.2.2.2 1
  refine sM_figure (k := 0) (lo := 2) (hi := 5) pA (by omega) (by omega) (by omega) (fun a b => pn_1 ?_) (fun a => pn_0 ?_)
  · have l0 := cd_in (show cd pn pg 0 ≠ 0 by omega)
    have f0 : Fit (cd pn pg) B 0 := ⟨fun _ => by omega, fun x => absurd x (by omega), fun x => absurd x (by omega), fun x => absurd x (by omega)⟩
    refine pA.at (k := 1) (by omega) (pk_eq (cd pn pg 1) 59 (fun y => ⟨7, ?_⟩) (fun y => ?_))
    · have l1 := cd_in (show cd pn pg 1 ≠ 0 by omega)
      refine sM_passages hP hB (by omega) h 6 0 M27 rfl oA s21 s22 s23 (by omega) (fun k hk => ?_) (fun i hi => absurd hi (by omega))
      by_cases w : k = 0
      · rw [w]; exact f0
      · have : k = 1 := by omega
        rw [this]
        exact ⟨fun x => absurd x (by omega), fun _ => y, fun x => absurd x (by omega), fun x => absurd x (by omega)⟩
    · refine h 1 M27 oA ⟨⟨by omega, fun k hk => ?_, fun _ x => y (x.2.1 rfl)⟩, Or.inr ⟨s21, ?_⟩⟩
      · have : k = 0 := by omega
        rw [this]; exact f0
      · rcases hB with q | ⟨J, p1, -⟩ <;> omega
  · refine h 0 M27 oA ⟨⟨by omega, fun k hk => absurd hk (by omega), fun _ x => a ?_⟩, Or.inr ⟨s21, by omega⟩⟩
    have := x.1 rfl
    omega
theorem PgR.xp {MX MM : Mm} {pn : Nat} {pg : Nat → Nat} (h : PgR MX MM pn pg) : XP pn pg MX := ⟨h.1, h.2.2.1, fun i hi => (h.2.2.2 i hi).1, fun i hi => (h.2.2.2 i hi).2.2⟩
theorem PgR.mp {MX MM : Mm} {pn : Nat} {pg : Nat → Nat} (h : PgR MX MM pn pg) : MP pn pg MM := ⟨h.2.1, h.2.2.1, fun i hi => (h.2.2.2 i hi).2.1, fun i hi => (h.2.2.2 i hi).2.2⟩
theorem OkF_uniq {pn B r1 r2 : Nat} {c : Nat → Nat} (h1 : OkF pn c B r1) (h2 : OkF pn c B r2) : r1 = r2 := by
  obtain ⟨a1, a2, a3⟩ := h1
  obtain ⟨b1, b2, b3⟩ := h2
  by_cases z : r1 < r2
  · exact absurd (b2 r1 z) (a3 (by omega))
  · by_cases y : r2 < r1
    · exact absurd (a2 r2 y) (b3 (by omega))
    · omega
theorem OkF_ex (pn B : Nat) (c : Nat → Nat) : ∃ r, OkF pn c B r := by
  by_cases h : ∃ k, k < pn ∧ ¬ Fit c B k
  · obtain ⟨r, h1, h2⟩ := pk_least (fun k => k < pn ∧ ¬ Fit c B k) h
    exact ⟨r, by omega, fun k hk => Classical.byContradiction (fun q => h2 k hk ⟨by omega, q⟩), fun _ => h1.2⟩
  · exact ⟨pn, Nat.le_refl _, fun k hk => Classical.byContradiction (fun q => h ⟨k, hk, q⟩), fun q => absurd q (by omega)⟩
theorem sim_fault (k : Nat) (MX MM : Mm) (hk : k < 512) (hR : Rel k MX MM) : w_X11_fault MX (fun r MX1 => w_X12_fault MM (fun r1 MM1 => r = r1 ∧ Rel (k + 1) MX1 MM1)) := by
  have hR1 := hR.up
  obtain ⟨s, f, pn, pg, cr, cs, hX, hM, v, hP, -⟩ := hR
  obtain ⟨B, hB⟩ := IsB_ex pn (cd pn pg)
  obtain ⟨r, hr⟩ := OkF_ex pn B (cd pn pg)
  unfold w_X11_fault w_X12_fault
  refine sX_ff hP.xp hB hr (sM_read hP.mp hB (fun r1 M1 o1 h1 => ⟨?_, hR1.fr coX.rf o1.co⟩))
  rw [OkF_uniq hr h1.1]
