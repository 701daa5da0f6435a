/-! ===== who is known; the simple calls ===== -/
def kn (s : Nat → Nat) (x1 x2 x3 : Int32) : Prop := isIdx (s 2) x1 ∧ isIdx (s 1) x2 ∧ (x3 = -1 ∨ (isIdx (s 2) x3 ∧ ¬ x3 = x1))
theorem kn_el {s : Nat → Nat} {x1 x2 x3 : Int32} (h : kn s x1 x2 x3) (hs : s 2 ≤ 5) : ∃ i p w, i < s 2 ∧ p < s 1 ∧ w ≤ s 2 ∧ w ≠ i + 1 ∧ x1 = nI i ∧ x2 = nI p ∧ x3 = nI w - 1 := by
  obtain ⟨⟨i, hi, e1⟩, ⟨p, hp, e2⟩, h3⟩ := h
  rcases h3 with h3 | ⟨⟨j, hj, e3⟩, hne⟩
  · exact ⟨i, p, 0, hi, hp, by omega, by omega, e1, e2, by rw [h3, nI_m1]⟩
  · refine ⟨i, p, j + 1, hi, hp, by omega, fun q => hne ?_, e1, e2, by rw [e3, nI_pred]⟩
    rw [e3, e1, show j = i by omega]
theorem sX_hasPerson {b n : Nat} {x : Int32} {M : Mm} {post : Int32 → Mm → Prop} (hM : M.1 b 3 = nI n) (hn : n < 2 ^ 31) (h1 : isIdx n x → post 1 M) (h0 : ¬ isIdx n x → post 0 M) : w_X2_hasPerson b x M post := by
  unfold w_X2_hasPerson
  rw [hM]
  exact px_rng hn h1 h0
theorem sX_hasPassage {b n : Nat} {x : Int32} {M : Mm} {post : Int32 → Mm → Prop} (hM : M.1 b 2 = nI n) (hn : n < 2 ^ 31) (h1 : isIdx n x → post 1 M) (h0 : ¬ isIdx n x → post 0 M) : w_X2_hasPassage b x M post := by
  unfold w_X2_hasPassage
  rw [hM]
  exact px_rng hn h1 h0
theorem sX_hasRoom {b n : Nat} {x : Int32} {M : Mm} {post : Int32 → Mm → Prop} (hM : M.1 b 1 = nI n) (hn : n < 2 ^ 31) (h1 : isIdx n x → post 1 M) (h0 : ¬ isIdx n x → post 0 M) : w_X2_hasRoom b x M post := by
  unfold w_X2_hasRoom
  rw [hM]
  exact px_rng hn h1 h0
theorem sX_knows {b : Nat} {x1 x2 x3 : Int32} {M : Mm} {s : Nat → Nat} {f : Nat → Nat → Nat} {post : Int32 → Mm → Prop} (hX : HX b M s f) {T : Nat} (hV : Vt T s f) (h1 : kn s x1 x2 x3 → post 1 M) (h0 : ¬ kn s x1 x2 x3 → post 0 M) : w_X2_knows b x1 x2 x3 M post := by
  have hs := hV.1.2.2.1
  have hs1 := hV.1.2.1
  unfold w_X2_knows
  refine sX_hasPerson hX.people (by omega) (fun a1 => pb_1 (sX_hasPassage hX.passages (by omega) (fun a2 => pb_1 ⟨fun a3 => h1 ⟨a1, a2, Or.inl a3⟩, fun a3 => sX_hasPerson hX.people (by omega) (fun a4 => pb_1 ⟨fun a5 => h0 (fun q => ?_), fun a5 => h1 ⟨a1, a2, Or.inr ⟨a4, a5⟩⟩⟩) (fun a4 => pb_0 (h0 (fun q => ?_)))⟩) (fun a2 => pb_0 (h0 (fun q => a2 q.2.1))))) (fun a1 => pb_0 (h0 (fun q => a1 q.1)))
  · rcases q.2.2 with q | q
    · exact a3 q
    · exact q.2 a5
  · rcases q.2.2 with q | q
    · exact a3 q
    · exact a4 q.1
theorem sM_within {x1 x2 x3 : Int32} {M : Mm} {post : Int32 → Mm → Prop} (h1 : ¬ x1 < x2 → ¬ x3 < x1 → post 1 M) (h0 : (x1 < x2 ∨ x3 < x1) → post 0 M) : w_X12_within x1 x2 x3 M post := ⟨fun q => h0 (Or.inl q), fun q => ⟨fun r => h0 (Or.inr r), fun r => h1 q r⟩⟩
theorem sM_isPerson {n : Nat} {x : Int32} {M : Mm} {post : Int32 → Mm → Prop} (hM : M.1 0 3 = nI n) (hn : n < 2 ^ 30) (h1 : isIdx n x → post 1 M) (h0 : ¬ isIdx n x → post 0 M) : w_X12_isPerson x M post := by
  unfold w_X12_isPerson w_X12_within
  rw [hM]
  exact pm_rng hn h1 h0
theorem sM_isPassage {n : Nat} {x : Int32} {M : Mm} {post : Int32 → Mm → Prop} (hM : M.1 0 2 = nI n) (hn : n < 2 ^ 30) (h1 : isIdx n x → post 1 M) (h0 : ¬ isIdx n x → post 0 M) : w_X12_isPassage x M post := by
  unfold w_X12_isPassage w_X12_within
  rw [hM]
  exact pm_rng hn h1 h0
theorem sM_isRoom {n : Nat} {x : Int32} {M : Mm} {post : Int32 → Mm → Prop} (hM : M.1 0 1 = nI n) (hn : n < 2 ^ 30) (h1 : isIdx n x → post 1 M) (h0 : ¬ isIdx n x → post 0 M) : w_X12_isRoom x M post := by
  unfold w_X12_isRoom w_X12_within
  rw [hM]
  exact pm_rng hn h1 h0
theorem sM_isWith {n : Nat} {x1 x3 : Int32} {M : Mm} {post : Int32 → Mm → Prop} (hM : M.1 0 3 = nI n) (hn : n < 2 ^ 30) (h1 : (x3 = -1 ∨ (isIdx n x3 ∧ ¬ x3 = x1)) → post 1 M) (h0 : ¬ (x3 = -1 ∨ (isIdx n x3 ∧ ¬ x3 = x1)) → post 0 M) : w_X12_isWith x1 x3 M post := by
  unfold w_X12_isWith
  refine ⟨fun a => h1 (Or.inl a), fun a => sM_isPerson hM hn (fun c => pb_1 ⟨fun d => h0 (fun q => ?_), fun d => h1 (Or.inr ⟨c, d⟩)⟩) (fun c => pb_0 (h0 (fun q => ?_)))⟩
  · rcases q with q | q
    · exact a q
    · exact q.2 d
  · rcases q with q | q
    · exact a q
    · exact c q.1
theorem sM_stepsOf {i p w : Nat} {M : Mm} {s : Nat → Nat} {f : Nat → Nat → Nat} {post : Int32 → Mm → Prop} (hM : HM M s f) {T : Nat} (hV : Vt T s f) (hi : i < s 2) (hp : p < s 1) (hw : w ≤ s 2) (h : post (nI (stp f i p w (f 5 i))) M) : w_X12_stepsOf (nI i) (nI p) (nI w - 1) M post := by
  have hs := hV.1.2.2.1
  have vi := hV.2.2.2.1 i hi
  have vp := hV.2.2.1 p hp
  unfold w_X12_stepsOf
  rcases w_cases w with ⟨rfl, e⟩ | ⟨j, rfl, e⟩
  · rw [e]
    exact pn_t rfl (sM_alone hM hV hi hp _ (hM.lie (by omega)) (by omega) h)
  · rw [e]
    have vj := hV.2.2.2.1 j (by omega)
    refine pn_f (ne_m1 (by omega)) (sM_alone hM hV hi hp _ (hM.lie (by omega)) (by omega) (sM_alone hM hV (by omega) hp _ (hM.lie (by omega)) (by omega) ?_))
    have y1 := yd_le (f 3 i) (f 2 p) (f 4 i) (f 5 i)
    have y2 := yd_le (f 3 j) (f 2 p) (f 4 j) (f 5 j)
    show post ((nI (yd (f 3 i) (f 2 p) (f 4 i) (f 5 i)) + nI (yd (f 3 j) (f 2 p) (f 4 j) (f 5 j)) + 1) / 2) M
    rw [nI_add, pe_h (by omega)]
    exact h
theorem sim_steps (k : Nat) (MX MM : Mm) (x1 x2 x3 : Int32) (hk : k < 512) (hR : Rel k MX MM) : w_X11_steps x1 x2 x3 MX (fun r MX1 => w_X12_steps x1 x2 x3 MM (fun r1 MM1 => r = r1 ∧ Rel (k + 1) MX1 MM1)) := by
  have hR1 := hR.up
  obtain ⟨s, f, pn, pg, cr, cs, hX, hM, hV, -⟩ := hR
  have hs := hV.1.2.2.1
  have hs1 := hV.1.2.1
  unfold w_X11_steps w_X12_steps
  refine sX_knows hX hV (fun h => pn_1 ?_) (fun h => pn_0 ?_)
  · have h' := h
    obtain ⟨i, p, w, hi, hp, hw, -, rfl, rfl, rfl⟩ := kn_el h hs
    refine sX_stepsOf (by decide) hX hV hi hp hw ?_
    refine sM_isPerson hM.people (by omega) (fun a1 => pb_1 (sM_isPassage hM.passages (by omega) (fun a2 => pb_1 (sM_isWith hM.people (by omega) (fun a3 => pb_1 (pb_1 ?_)) (fun a3 => absurd h'.2.2 a3))) (fun a2 => absurd h'.2.1 a2))) (fun a1 => absurd h'.1 a1)
    exact sM_stepsOf hM hV hi hp hw ⟨rfl, hR1⟩
  · refine sM_isPerson hM.people (by omega) (fun a1 => pb_1 (sM_isPassage hM.passages (by omega) (fun a2 => pb_1 (sM_isWith hM.people (by omega) (fun a3 => absurd ⟨a1, a2, a3⟩ h) (fun a3 => pb_0 (pb_0 ⟨rfl, hR1⟩)))) (fun a2 => pb_0 (pb_0 ⟨rfl, hR1⟩)))) (fun a1 => pb_0 (pb_0 ⟨rfl, hR1⟩))
theorem sim_passage (k : Nat) (MX MM : Mm) (x1 x2 : Int32) (hk : k < 512) (hR : Rel k MX MM) : w_X11_passage x1 x2 MX (fun r MX1 => w_X12_passage x1 x2 MM (fun r1 MM1 => r = r1 ∧ Rel (k + 1) MX1 MM1)) := by
  have hR1 := hR.up
  obtain ⟨s, f, pn, pg, cr, cs, hX, hM, hV, -⟩ := hR
  have hs := hV.1.2.2.1
  have hs1 := hV.1.2.1
  unfold w_X11_passage w_X12_passage
  refine sX_hasPassage hX.passages (by omega) (fun h => pn_1 ?_) (fun h => pn_0 (sM_isPassage hM.passages (by omega) (fun a => absurd a h) (fun a => pn_0 ⟨rfl, hR1⟩)))
  have h' := h
  obtain ⟨p, hp, rfl⟩ := h
  have fin : ∀ (v : Int32), (¬ x2 < 0 → ¬ 2 < x2 → w_X12_passageNow (nI p) x2 MM (fun r1 MM1 => v = r1 ∧ Rel (k + 1) MX MM1)) → ((x2 < 0 ∨ 2 < x2) → v = -102) → w_X12_isPassage (nI p) MM (fun r1 M2 => ((¬ r1 = 0) → (w_X12_within x2 (0 : Int32) (2 : Int32) M2 (fun r5 M6 => ((r5 = 0) → ((fun r1 MM1 => v = r1 ∧ Rel (k + 1) MX MM1) (-102 : Int32) M6)) ∧ ((¬ r5 = 0) → (w_X12_passageNow (nI p) x2 M6 (fun r9 M10 => (fun r1 MM1 => v = r1 ∧ Rel (k + 1) MX MM1) r9 M10)))))) ∧ ((r1 = 0) → ((fun r1 MM1 => v = r1 ∧ Rel (k + 1) MX MM1) (-101 : Int32) M2))) := by
    intro v g1 g2
    exact sM_isPassage hM.passages (by omega) (fun a => pn_1 (sM_within (fun q1 q2 => pb_1 (g1 q1 q2)) (fun q => pb_0 ⟨g2 q, hR1⟩))) (fun a => absurd h' a)
  unfold w_X11_tellPassage
  refine ⟨fun e => ⟨vp_i (by omega) (by decide), fin _ (fun _ _ => ?_) (fun q => ?_)⟩, fun e => ⟨fun e1 => ⟨vp_i (by omega) (by decide), fin _ (fun _ _ => ?_) (fun q => ?_)⟩, fun e1 => ⟨fun e2 => ⟨vp_i (by omega) (by decide), fin _ (fun _ _ => ?_) (fun q => ?_)⟩, fun e2 => fin _ (fun q1 q2 => ?_) (fun _ => rfl)⟩⟩⟩
  · subst e
    unfold w_X12_passageNow
    refine pn_t rfl ⟨vp_i (by omega) (by decide), ?_, hR1⟩
    rw [cl_i (by omega), hM.one (by omega)]
    exact hX.one (by omega)
  · subst e
    exact absurd q (by decide)
  · subst e1
    unfold w_X12_passageNow
    refine pn_f (by decide) (pn_t rfl ⟨vp_i (by omega) (by decide), ?_, hR1⟩)
    rw [cl_i (by omega), hM.other (by omega)]
    exact hX.other (by omega)
  · subst e1
    exact absurd q (by decide)
  · subst e2
    unfold w_X12_passageNow
    refine pn_f (by decide) (pn_f (by decide) ⟨vp_i (by omega) (by decide), ?_, hR1⟩)
    rw [cl_i (by omega), hM.len (by omega)]
    exact hX.len (by omega)
  · subst e2
    exact absurd q (by decide)
  · exfalso
    rw [Int32.lt_iff_toInt_lt] at q1 q2
    have h0 : (0 : Int32).toInt = 0 := by decide
    have h2 : (2 : Int32).toInt = 2 := by decide
    have n0 := lv_neT e h0
    have n1 := lv_neT e1 (show (1 : Int32).toInt = 1 by decide)
    have n2 := lv_neT e2 h2
    omega
