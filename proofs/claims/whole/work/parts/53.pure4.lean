theorem H3_rooms {M : Mm} {s : Nat → Nat} {f : Nat → Nat → Nat} (h : HX 3 M s f) : M.1 3 1 = nI (s 0) := h.1 0 (by decide)
theorem H3_passages {M : Mm} {s : Nat → Nat} {f : Nat → Nat → Nat} (h : HX 3 M s f) : M.1 3 2 = nI (s 1) := h.1 1 (by decide)
theorem H3_people {M : Mm} {s : Nat → Nat} {f : Nat → Nat → Nat} (h : HX 3 M s f) : M.1 3 3 = nI (s 2) := h.1 2 (by decide)
theorem H3_together {M : Mm} {s : Nat → Nat} {f : Nat → Nat → Nat} (h : HX 3 M s f) : M.1 3 12 = nI (s 3) := h.1 3 (by decide)
theorem H3_seen {M : Mm} {s : Nat → Nat} {f : Nat → Nat → Nat} (h : HX 3 M s f) : M.1 3 13 = nI (s 4) := h.1 4 (by decide)
theorem H3_one {M : Mm} {s : Nat → Nat} {f : Nat → Nat → Nat} (h : HX 3 M s f) {i : Nat} (hi : i < 7) : M.1 10 i = nI (f 0 i) := h.2 0 i (by decide) hi
theorem H3_other {M : Mm} {s : Nat → Nat} {f : Nat → Nat → Nat} (h : HX 3 M s f) {i : Nat} (hi : i < 7) : M.1 11 i = nI (f 1 i) := h.2 1 i (by decide) hi
theorem H3_len {M : Mm} {s : Nat → Nat} {f : Nat → Nat → Nat} (h : HX 3 M s f) {i : Nat} (hi : i < 7) : M.1 12 i = nI (f 2 i) := h.2 2 i (by decide) hi
theorem H3_kind {M : Mm} {s : Nat → Nat} {f : Nat → Nat → Nat} (h : HX 3 M s f) {i : Nat} (hi : i < 5) : M.1 13 i = nI (f 3 i) := h.2 3 i (by decide) hi
theorem H3_deed {M : Mm} {s : Nat → Nat} {f : Nat → Nat → Nat} (h : HX 3 M s f) {i : Nat} (hi : i < 5) : M.1 14 i = nI (f 4 i) := h.2 4 i (by decide) hi
theorem H3_lie {M : Mm} {s : Nat → Nat} {f : Nat → Nat → Nat} (h : HX 3 M s f) {i : Nat} (hi : i < 5) : M.1 15 i = nI (f 5 i) := h.2 5 i (by decide) hi
theorem H3_place {M : Mm} {s : Nat → Nat} {f : Nat → Nat → Nat} (h : HX 3 M s f) {i : Nat} (hi : i < 5) : M.1 16 i = nI (f 6 i) := h.2 6 i (by decide) hi
theorem H3_took {M : Mm} {s : Nat → Nat} {f : Nat → Nat → Nat} (h : HX 3 M s f) {i : Nat} (hi : i < 5) : M.1 17 i = nI (f 7 i) := h.2 7 i (by decide) hi
theorem H3_sper {M : Mm} {s : Nat → Nat} {f : Nat → Nat → Nat} (h : HX 3 M s f) {i : Nat} (hi : i < 6) : M.1 18 i = nI (f 8 i) := h.2 8 i (by decide) hi
theorem H3_spas {M : Mm} {s : Nat → Nat} {f : Nat → Nat → Nat} (h : HX 3 M s f) {i : Nat} (hi : i < 6) : M.1 19 i = nI (f 9 i) := h.2 9 i (by decide) hi
theorem H3_swith {M : Mm} {s : Nat → Nat} {f : Nat → Nat → Nat} (h : HX 3 M s f) {i : Nat} (hi : i < 6) : M.1 20 i = nI (f 10 i) - 1 := h.2 10 i (by decide) hi
theorem H3_sstep {M : Mm} {s : Nat → Nat} {f : Nat → Nat → Nat} (h : HX 3 M s f) {i : Nat} (hi : i < 6) : M.1 21 i = nI (f 11 i) := h.2 11 i (by decide) hi
def Rst (k : Nat) (MX MM : Mm) (s : Nat → Nat) (f : Nat → Nat → Nat) : Prop := ∃ (pn : Nat) (pg : Nat → Nat) (cr cs : Nat), PgR MX MM pn pg ∧ CtR k MX MM cr cs ∧ KpR MX MM s f cr
theorem Rel.el {k : Nat} {MX MM : Mm} (h : Rel k MX MM) : ∃ (s : Nat → Nat) (f : Nat → Nat → Nat), HX 3 MX s f ∧ HM MM s f ∧ Vd s f ∧ Rst k MX MM s f := by
  obtain ⟨s, f, pn, pg, cr, cs, h1, h2, h3, h4⟩ := h
  exact ⟨s, f, h1, h2, h3, pn, pg, cr, cs, h4⟩
theorem Rel.mk {k : Nat} {MX MM : Mm} {s : Nat → Nat} {f : Nat → Nat → Nat} (h1 : HX 3 MX s f) (h2 : HM MM s f) (h3 : Vd s f) (h4 : Rst k MX MM s f) : Rel k MX MM := by
  obtain ⟨pn, pg, cr, cs, h4⟩ := h4
  exact ⟨s, f, pn, pg, cr, cs, h1, h2, h3, h4⟩
theorem Rst.hs {k : Nat} {MX MM MX1 MM1 : Mm} {s s1 : Nat → Nat} {f f1 : Nat → Nat → Nat} (h : Rst k MX MM s f) (e0 : s1 0 = s 0 ∧ s1 1 = s 1 ∧ s1 2 = s 2) (ef : ∀ i, f1 0 i = f 0 i ∧ f1 1 i = f 1 i ∧ f1 3 i = f 3 i) (oX : ∀ n, n < 3 ∨ (22 ≤ n ∧ n < 41) → MX1.1 n = MX.1 n) (oM0 : ∀ j, j = 0 ∨ j = 13 ∨ j = 19 ∨ j = 35 ∨ j = 36 ∨ j = 37 ∨ j = 38 → MM1.1 0 j = MM.1 0 j) (oM : ∀ n, n = 13 ∨ (24 ≤ n ∧ n ≤ 32) → MM1.1 n = MM.1 n) : Rst (k + 1) MX1 MM1 s1 f1 := by
  obtain ⟨pn, pg, cr, cs, ⟨p1, p2, p3, p4⟩, ⟨c1, c2, c3, c4, c5, c6⟩, h6⟩ := h
  have x0 := oX 0 (by omega)
  have x1 := oX 1 (by omega)
  have x2 := oX 2 (by omega)
  refine ⟨pn, pg, cr, cs, ⟨by rw [x1]; exact p1, by rw [oM0 19 (by omega)]; exact p2, p3, fun i hi => by rw [x2, oM 13 (by omega)]; exact p4 i hi⟩, ⟨by rw [x0]; exact c1, by rw [oM0 0 (by omega)]; exact c2, by omega, by rw [x0]; exact c4, by rw [oM0 13 (by omega)]; exact c5, c6⟩, ?_⟩
  unfold KpR at h6 ⊢
  rw [x0, oM0 35 (by omega), oM0 36 (by omega)]
  rcases h6 with h6 | ⟨g1, g2, g3, s2, f2, g4, g5, g6, g7, g8, g9⟩
  · exact Or.inl h6
  · refine Or.inr ⟨g1, g2, g3, s2, f2, g4.cg (fun n a b => oX n (by omega)), ?_, g6, ⟨by rw [g7.1, e0.1], by rw [g7.2.1, e0.2.1], by rw [g7.2.2, e0.2.2]⟩, fun i hi => ⟨by rw [(g8 i hi).1, (ef i).1], by rw [(g8 i hi).2, (ef i).2.1]⟩, fun i hi => by rw [g9 i hi, (ef i).2.2]⟩
    obtain ⟨k1, k2, k3, k4⟩ := g5
    refine ⟨⟨by rw [oM0 37 (by omega)]; exact k1.1, by rw [oM0 38 (by omega)]; exact k1.2⟩, fun i hi => by rw [oM 24 (by omega)]; exact k2 i hi, fun i hi => by rw [oM 25 (by omega), oM 26 (by omega), oM 27 (by omega), oM 28 (by omega)]; exact k3 i hi, fun i hi => by rw [oM 29 (by omega), oM 30 (by omega), oM 31 (by omega), oM 32 (by omega)]; exact k4 i hi⟩
/-- one place of one row is written, on both sides alike -/
theorem Rel.wr1 {k : Nat} {MX MM MX1 MM1 : Mm} {s : Nat → Nat} {f : Nat → Nat → Nat} (hX : HX 3 MX s f) (hM : HM MM s f) (hR : Rst k MX MM s f) (j i v : Nat) (hj : j < 12) (hj3 : j ≠ 0 ∧ j ≠ 1 ∧ j ≠ 3) (eX : MX1 = wI MX (3 + 7 + j) (upd (MX.1 (3 + 7 + j)) i (enc j v))) (eM : MM1 = wI MM (1 + j) (upd (MM.1 (1 + j)) i (enc j v))) (hV : Vd s (upf f j i v)) : Rel (k + 1) MX1 MM1 := by
  refine Rel.mk (hX.wr j i v eX) (hM.wr j i v eM) hV (hR.hs ⟨rfl, rfl, rfl⟩ (fun a => ⟨upf_n (by omega), upf_n (by omega), upf_n (by omega)⟩) (fun n hn => ?_) (fun n hn => ?_) (fun n hn => ?_))
  · rw [eX]; exact wI_ne _ _ (by omega)
  · rw [eM, wI_ne _ _ (by omega)]
  · rw [eM]; exact wI_ne _ _ (by omega)
theorem nI_lt9 {d : Nat} (h : d ≤ 9) : (nI d < 9 ↔ d < 9) := nI_ltI (by omega) (by decide)
theorem nI_eq9 {d : Nat} (h : d ≤ 9) : (nI d = 9 ↔ d = 9) := nI_eq (by omega) (by decide)
theorem nI_eq0 {d : Nat} (h : d < 2 ^ 31) : (nI d = 0 ↔ d = 0) := nI_eq h (by decide)
theorem nI_gt0 {d : Nat} (h : d < 2 ^ 31) : (0 < nI d ↔ 0 < d) := nI_ltI (by decide) h
theorem sim_sin (k : Nat) (MX MM : Mm) (x1 : Int32) (hk : k < 512) (hR : Rel k MX MM) : w_X11_sin x1 MX (fun r MX1 => w_X12_sin x1 MM (fun r1 MM1 => r = r1 ∧ Rel (k + 1) MX1 MM1)) := by
  have hR1 := hR.up
  obtain ⟨s, f, hX, hM, v, hR⟩ := hR.el
  have hs := v.1.2.2.1
  unfold w_X11_sin w_X12_sin
  refine sX_hasPerson hX.people (by omega) (fun h => pn_1 ?_) (fun h => pn_0 (sM_isPerson hM.people (by omega) (fun a => absurd a h) (fun a => pn_0 ⟨rfl, hR1⟩)))
  have h' := h
  obtain ⟨i, hi, rfl⟩ := h
  have vi := v.2.2.2.1 i hi
  have ci : (nI i).toNatClampNeg = i := cl_i (by omega)
  refine ⟨vp_i (by omega) (by decide), ?_⟩
  rw [ci, H3_deed hX (by omega)]
  refine ⟨fun q M7 e7 => ?_, fun q => ?_⟩
  · have q1 : f 4 i < 9 := (nI_lt9 (by omega)).mp q
    refine sM_isPerson hM.people (by omega) (fun a => pn_1 ⟨vp_i (by omega) (by decide), ?_⟩) (fun a => absurd h' a)
    rw [hM.deed (by omega)]
    refine pn_f (fun z => by have := (nI_eq9 (by omega)).mp z; omega) (fun M8 e8 => ⟨?_, ?_⟩)
    · rw [e7, e8, wI_same, wI_same]
      simp [upd]
    · rw [nI_1] at e7 e8
      refine Rel.wr1 hX hM hR 4 i (f 4 i + 1) (by decide) (by decide) e7 e8 ⟨v.1, v.2.1, v.2.2.1, fun a ha => ?_, v.2.2.2.2⟩
      have va := v.2.2.2.1 a ha
      by_cases z : a = i
      · subst z
        rw [upf_n (by omega), upf_s, upf_n (by omega), upf_n (by omega), upf_n (by omega)]
        omega
      · rw [upf_n (by omega), upf_n (by omega), upf_n (by omega), upf_n (by omega), upf_n (by omega)]
        exact va
  · have q1 : f 4 i = 9 := by
      have : ¬ f 4 i < 9 := fun z => q ((nI_lt9 (by omega)).mpr z)
      omega
    refine sM_isPerson hM.people (by omega) (fun a => pn_1 ⟨vp_i (by omega) (by decide), ?_⟩) (fun a => absurd h' a)
    rw [hM.deed (by omega)]
    exact pn_t ((nI_eq9 (by omega)).mpr q1) ⟨rfl, hR1⟩
theorem sim_lie (k : Nat) (MX MM : Mm) (x1 : Int32) (hk : k < 512) (hR : Rel k MX MM) : w_X11_lie x1 MX (fun r MX1 => w_X12_lie x1 MM (fun r1 MM1 => r = r1 ∧ Rel (k + 1) MX1 MM1)) := by
  have hR1 := hR.up
  obtain ⟨s, f, hX, hM, v, hR⟩ := hR.el
  have hs := v.1.2.2.1
  unfold w_X11_lie w_X12_lie
  refine sX_hasPerson hX.people (by omega) (fun h => pn_1 ?_) (fun h => pn_0 (sM_isPerson hM.people (by omega) (fun a => absurd a h) (fun a => pn_0 ⟨rfl, hR1⟩)))
  have h' := h
  obtain ⟨i, hi, rfl⟩ := h
  have vi := v.2.2.2.1 i hi
  have ci : (nI i).toNatClampNeg = i := cl_i (by omega)
  refine ⟨vp_i (by omega) (by decide), ?_⟩
  rw [ci, H3_lie hX (by omega)]
  refine ⟨fun q M7 e7 => ?_, fun q => ?_⟩
  · have q1 : f 5 i < 9 := (nI_lt9 (by omega)).mp q
    refine sM_isPerson hM.people (by omega) (fun a => pn_1 ⟨vp_i (by omega) (by decide), ?_⟩) (fun a => absurd h' a)
    rw [hM.lie (by omega)]
    refine pn_f (fun z => by have := (nI_eq9 (by omega)).mp z; omega) (fun M8 e8 => ⟨?_, ?_⟩)
    · rw [e7, e8, wI_same, wI_same]
      simp [upd]
    · rw [nI_1] at e7 e8
      refine Rel.wr1 hX hM hR 5 i (f 5 i + 1) (by decide) (by decide) e7 e8 ⟨v.1, v.2.1, v.2.2.1, fun a ha => ?_, v.2.2.2.2⟩
      have va := v.2.2.2.1 a ha
      by_cases z : a = i
      · subst z
        rw [upf_n (by omega), upf_n (by omega), upf_s, upf_n (by omega), upf_n (by omega)]
        omega
      · rw [upf_n (by omega), upf_n (by omega), upf_n (by omega), upf_n (by omega), upf_n (by omega)]
        exact va
  · have q1 : f 5 i = 9 := by
      have : ¬ f 5 i < 9 := fun z => q ((nI_lt9 (by omega)).mpr z)
      omega
    refine sM_isPerson hM.people (by omega) (fun a => pn_1 ⟨vp_i (by omega) (by decide), ?_⟩) (fun a => absurd h' a)
    rw [hM.lie (by omega)]
    exact pn_t ((nI_eq9 (by omega)).mpr q1) ⟨rfl, hR1⟩
theorem sim_confess (k : Nat) (MX MM : Mm) (x1 : Int32) (hk : k < 512) (hR : Rel k MX MM) : w_X11_confess x1 MX (fun r MX1 => w_X12_confess x1 MM (fun r1 MM1 => r = r1 ∧ Rel (k + 1) MX1 MM1)) := by
  have hR1 := hR.up
  obtain ⟨s, f, hX, hM, v, hR⟩ := hR.el
  have hs := v.1.2.2.1
  unfold w_X11_confess w_X12_confess
  refine sX_hasPerson hX.people (by omega) (fun h => pn_1 ?_) (fun h => pn_0 (sM_isPerson hM.people (by omega) (fun a => absurd a h) (fun a => pn_0 ⟨rfl, hR1⟩)))
  have h' := h
  obtain ⟨i, hi, rfl⟩ := h
  have vi := v.2.2.2.1 i hi
  have ci : (nI i).toNatClampNeg = i := cl_i (by omega)
  refine ⟨vp_i (by omega) (by decide), ?_⟩
  rw [ci, H3_deed hX (by omega)]
  refine ⟨fun q M7 e7 => ?_, fun q => ?_⟩
  · have q1 : 0 < f 4 i := (nI_gt0 (by omega)).mp q
    refine sM_isPerson hM.people (by omega) (fun a => pn_1 ⟨vp_i (by omega) (by decide), ?_⟩) (fun a => absurd h' a)
    rw [hM.deed (by omega)]
    refine pn_f (fun z => by have := (nI_eq0 (by omega)).mp z; omega) (fun M8 e8 => ⟨?_, ?_⟩)
    · rw [e7, e8, wI_same, wI_same]
      simp [upd]
    · have es : nI (f 4 i) - 1 = nI (f 4 i - 1) := pk_sub (a := f 4 i) (b := 1) (by omega)
      rw [es] at e7 e8
      refine Rel.wr1 hX hM hR 4 i (f 4 i - 1) (by decide) (by decide) e7 e8 ⟨v.1, v.2.1, v.2.2.1, fun a ha => ?_, v.2.2.2.2⟩
      have va := v.2.2.2.1 a ha
      by_cases z : a = i
      · subst z
        rw [upf_n (by omega), upf_s, upf_n (by omega), upf_n (by omega), upf_n (by omega)]
        omega
      · rw [upf_n (by omega), upf_n (by omega), upf_n (by omega), upf_n (by omega), upf_n (by omega)]
        exact va
  · have q1 : f 4 i = 0 := by
      have : ¬ 0 < f 4 i := fun z => q ((nI_gt0 (by omega)).mpr z)
      omega
    refine sM_isPerson hM.people (by omega) (fun a => pn_1 ⟨vp_i (by omega) (by decide), ?_⟩) (fun a => absurd h' a)
    rw [hM.deed (by omega)]
    exact pn_t ((nI_eq0 (by omega)).mpr q1) ⟨rfl, hR1⟩
theorem in19 {x : Int32} (h1 : ¬ x < 1) (h2 : x ≤ 9) : ∃ n : Nat, 1 ≤ n ∧ n ≤ 9 ∧ x = nI n := by
  rw [Int32.lt_iff_toInt_lt] at h1
  rw [Int32.le_iff_toInt_le] at h2
  have e1 : (1 : Int32).toInt = 1 := by decide
  have e9 : (9 : Int32).toInt = 9 := by decide
  refine ⟨x.toInt.toNat, by omega, by omega, ?_⟩
  apply Int32.toInt_inj.mp
  rw [nI_toInt (by omega)]
  omega
theorem le_nlt {a b : Int32} : a ≤ b ↔ ¬ b < a := by
  rw [Int32.le_iff_toInt_le, Int32.lt_iff_toInt_lt]
  omega
theorem sim_carpet (k : Nat) (MX MM : Mm) (x1 x2 : Int32) (hk : k < 512) (hR : Rel k MX MM) : w_X11_carpet x1 x2 MX (fun r MX1 => w_X12_carpet x1 x2 MM (fun r1 MM1 => r = r1 ∧ Rel (k + 1) MX1 MM1)) := by
  have hR1 := hR.up
  obtain ⟨s, f, hX, hM, v, hR⟩ := hR.el
  have hs := v.1.2.1
  unfold w_X11_carpet w_X12_carpet
  refine sX_hasPassage hX.passages (by omega) (fun h => pn_1 ?_) (fun h => pn_0 (sM_isPassage hM.passages (by omega) (fun a => absurd a h) (fun a => pn_0 ⟨rfl, hR1⟩)))
  have h' := h
  obtain ⟨i, hi, rfl⟩ := h
  have vi := v.2.2.1 i hi
  have ci : (nI i).toNatClampNeg = i := cl_i (by omega)
  refine ⟨fun q => ?_, fun q => ⟨fun q2 => ⟨vp_i (by omega) (by decide), fun M8 e8 => ?_⟩, fun q2 => ?_⟩⟩
  · exact sM_isPassage hM.passages (by omega) (fun a => pn_1 (sM_within (fun z _ => absurd q z) (fun _ => pn_0 ⟨rfl, hR1⟩))) (fun a => absurd h' a)
  · refine sM_isPassage hM.passages (by omega) (fun a => pn_1 (sM_within (fun _ _ => pn_1 ⟨vp_i (by omega) (by decide), fun M9 e9 => ⟨?_, ?_⟩⟩) (fun z => ?_))) (fun a => absurd h' a)
    · rw [ci, H3_len hX (by omega), hM.len (by omega)]
    · obtain ⟨n, n1, n9, rfl⟩ := in19 q q2
      rw [ci] at e8 e9
      refine Rel.wr1 hX hM hR 2 i n (by decide) (by decide) e8 e9 ⟨v.1, v.2.1, fun a ha => ?_, fun a ha => ?_, v.2.2.2.2⟩
      · have va := v.2.2.1 a ha
        by_cases z : a = i
        · subst z
          rw [upf_n (by omega), upf_n (by omega), upf_s]
          omega
        · rw [upf_n (by omega), upf_n (by omega), upf_n (by omega)]
          exact va
      · rw [upf_n (by omega), upf_n (by omega), upf_n (by omega), upf_n (by omega), upf_n (by omega)]
        exact v.2.2.2.1 a ha
    · rcases z with z | z
      · exact absurd z q
      · exact absurd z (le_nlt.mp q2)
  · refine sM_isPassage hM.passages (by omega) (fun a => pn_1 (sM_within (fun _ z => ?_) (fun _ => pn_0 ⟨rfl, hR1⟩))) (fun a => absurd h' a)
    exact absurd (le_nlt.mpr z) q2
theorem sim_forget (k : Nat) (MX MM : Mm) (hk : k < 512) (hR : Rel k MX MM) : w_X11_forget MX (fun r MX1 => w_X12_forget MM (fun r1 MM1 => r = r1 ∧ Rel (k + 1) MX1 MM1)) := by
  obtain ⟨s, f, hX, hM, v, hR⟩ := hR.el
  unfold w_X11_forget w_X12_forget
  intro M1 e1 M2 e2
  rw [H3_seen hX, hM.seen]
  refine ⟨rfl, Rel.mk (hX.sc 4 0 (by decide) e1) (hM.sc 4 0 (by decide) e2) ⟨⟨v.1.1, v.1.2.1, v.1.2.2.1, by simp [ups]⟩, v.2.1, v.2.2.1, v.2.2.2.1, fun a ha => absurd ha (by simp [ups])⟩ (hR.hs ⟨rfl, rfl, rfl⟩ (fun _ => ⟨rfl, rfl, rfl⟩) (fun n hn => ?_) (fun n hn => ?_) (fun n hn => ?_))⟩
  · rw [e1]; exact wI_ne _ _ (by omega)
  · rw [e2, wI_same]
    have : n ≠ 14 := by omega
    simp [upd, this]
  · rw [e2]; exact wI_ne _ _ (by omega)
