/-! ===== rules for reading; loops; the page; who goes ===== -/
theorem re_ {x y : Int32} {A B : Prop} (a b : Nat) (f : a ≠ b → A) (g : a = b → B) (hx : x = nI a := by rfl) (hy : y = nI b := by rfl) (ha : a < 2 ^ 31 := by omega) (hb : b < 2 ^ 31 := by omega) : (¬ x = y → A) ∧ (x = y → B) :=
  have h := pk_eq (A := B) (B := A) a b g f hx hy ha hb
  ⟨h.2, h.1⟩
theorem rl_ {x y : Int32} {A B : Prop} (a b : Nat) (f : b < a → A) (g : a ≤ b → B) (hx : x = nI a := by rfl) (hy : y = nI b := by rfl) (ha : a < 2 ^ 31 := by omega) (hb : b < 2 ^ 31 := by omega) : (¬ x ≤ y → A) ∧ (x ≤ y → B) :=
  have h := pk_le (A := B) (B := A) a b g f hx hy ha hb
  ⟨h.2, h.1⟩
theorem upf_comm {f : Nat → Nat → Nat} {j1 i1 v1 j2 i2 v2 : Nat} (h : j1 ≠ j2) : upf (upf f j1 i1 v1) j2 i2 v2 = upf (upf f j2 i2 v2) j1 i1 v1 := by
  funext a b
  unfold upf
  by_cases c1 : a = j2 ∧ b = i2
  · have c3 : ¬ (a = j1 ∧ b = i1) := fun q => h (q.1.symm.trans c1.1)
    rw [if_pos c1, if_neg c3, if_pos c1]
  · by_cases c2 : a = j1 ∧ b = i1
    · rw [if_neg c1, if_pos c2, if_pos c2]
    · rw [if_neg c1, if_neg c2, if_neg c2, if_neg c1]
theorem KpR.cg {MX MM MX1 MM1 : Mm} {s s1 : Nat → Nat} {f f1 : Nat → Nat → Nat} {cr : Nat} (h6 : KpR MX MM s f cr) (e0 : s1 0 = s 0 ∧ s1 1 = s 1 ∧ s1 2 = s 2) (ef : ∀ i, f1 0 i = f 0 i ∧ f1 1 i = f 1 i ∧ f1 3 i = f 3 i) (x0 : MX1.1 0 6 = MX.1 0 6) (oX : ∀ n, 22 ≤ n → n < 41 → MX1.1 n = MX.1 n) (oM0 : ∀ j, j = 35 ∨ j = 36 ∨ j = 37 ∨ j = 38 → MM1.1 0 j = MM.1 0 j) (oM : ∀ n, 24 ≤ n → n ≤ 32 → MM1.1 n = MM.1 n) : KpR MX1 MM1 s1 f1 cr := by
  unfold KpR at h6 ⊢
  rw [x0, oM0 35 (by omega), oM0 36 (by omega)]
  rcases h6 with h6 | ⟨g1, g2, g3, s2, f2, g4, g5, g6, g7, g8, g9⟩
  · exact Or.inl h6
  · refine Or.inr ⟨g1, g2, g3, s2, f2, g4.cg (fun n a b => oX n (by omega) (by omega)), ?_, g6, ⟨by rw [g7.1, e0.1], by rw [g7.2.1, e0.2.1], by rw [g7.2.2, e0.2.2]⟩, fun i hi => ⟨by rw [(g8 i hi).1, (ef i).1], by rw [(g8 i hi).2, (ef i).2.1]⟩, fun i hi => by rw [g9 i hi, (ef i).2.2]⟩
    obtain ⟨k1, k2, k3, k4⟩ := g5
    refine ⟨⟨by rw [oM0 37 (by omega)]; exact k1.1, by rw [oM0 38 (by omega)]; exact k1.2⟩, fun i hi => by rw [oM 24 (by omega) (by omega)]; exact k2 i hi, fun i hi => by rw [oM 25 (by omega) (by omega), oM 26 (by omega) (by omega), oM 27 (by omega) (by omega), oM 28 (by omega) (by omega)]; exact k3 i hi, fun i hi => by rw [oM 29 (by omega) (by omega), oM 30 (by omega) (by omega), oM 31 (by omega) (by omega), oM 32 (by omega) (by omega)]; exact k4 i hi⟩
theorem nb8 {c : Nat} (h : c < 128) : (nI c).toInt8.toInt32 = nI c := by
  have g : ∀ c : Fin 128, (nI c.1).toInt8.toInt32 = nI c.1 := by decide +kernel
  exact g ⟨c, h⟩
theorem inR {x : Int32} {lo hi : Nat} (hh : hi < 2 ^ 31) (h1 : ¬ x < nI lo) (h2 : x ≤ nI hi) (hl : lo ≤ hi) : ∃ n : Nat, lo ≤ n ∧ n ≤ hi ∧ x = nI n := by
  rw [Int32.lt_iff_toInt_lt, nI_toInt (by omega)] at h1
  rw [Int32.le_iff_toInt_le, nI_toInt (by omega)] at h2
  refine ⟨x.toInt.toNat, by omega, by omega, ?_⟩
  apply Int32.toInt_inj.mp
  rw [nI_toInt (by omega)]
  omega
theorem sim_letter (k : Nat) (MX MM : Mm) (x1 : Int32) (hk : k < 512) (hR : Rel k MX MM) : w_X11_letter x1 MX (fun r MX1 => w_X12_letter x1 MM (fun r1 MM1 => r = r1 ∧ Rel (k + 1) MX1 MM1)) := by
  have hR1 := hR.up
  obtain ⟨s, f, pn, pg, cr, cs, hX, hM, hV, ⟨p1, p2, p3, p4⟩, ⟨c1, c2, c3, c4, c5, c6⟩, h6⟩ := hR
  unfold w_X11_letter w_X12_letter
  refine ⟨fun q => sM_within (fun z _ => absurd q z) (fun _ => pn_0 ⟨rfl, hR1⟩), fun q => ⟨fun q2 => ?_, fun q2 => sM_within (fun _ z => absurd (le_nlt.mpr z) q2) (fun _ => pn_0 ⟨rfl, hR1⟩)⟩⟩
  obtain ⟨c, cl, ch, rfl⟩ := inR (lo := 32) (hi := 126) (by decide) q q2 (by decide)
  rw [p1]
  refine pk_lt pn 52 (fun q3 => ?_) (fun q3 => ?_)
  · unfold w_X5_append
    rw [p1]
    refine pb_f (fun z => nI_ge (a := pn) (b := 52) q3 (by decide) z) ⟨vp_i (by omega) (by decide), fun M3 e3 M5 e5 => ?_⟩
    refine sM_within (fun _ _ => pn_1 ?_) (fun z => ?_)
    · rw [p2]
      refine re_ pn 52 (fun q4 => ⟨vp_i (by omega) (by decide), fun M7 e7 M9 e9 => ?_⟩) (fun q4 => absurd q4 (by omega))
      rw [cl_i (by omega)] at e3 e7
      rw [pk_vb, nb8 (by omega)] at e7
      have a1 : M5.1 1 1 = nI (pn + 1) := by rw [e5, wI_same, pk_us, e3, wI_ne _ _ (by decide), p1, nI_1]
      have a2 : M9.1 0 19 = nI (pn + 1) := by rw [e9, wI_same, pk_us, e7, wI_ne _ _ (by decide), p2, nI_1]
      have b0 : ∀ n, n ≠ 1 → n ≠ 2 → M5.1 n = MX.1 n := fun n h1 h2 => by rw [e5, wI_ne _ _ h1, e3, wI_ne _ _ h2]
      have b1 : ∀ n, n ≠ 0 → n ≠ 13 → M9.1 n = MM.1 n := fun n h1 h2 => by rw [e9, wI_ne _ _ h1, e7, wI_ne _ _ h2]
      have b2 : ∀ j, j ≠ 19 → M9.1 0 j = MM.1 0 j := fun j hj => by rw [e9, wI_same, pk_un hj, e7, wI_ne _ _ (by decide)]
      have b3 : M5.1 2 = upd (MX.1 2) pn (nI c) := by rw [e5, wI_ne _ _ (by decide), e3, wI_same]
      have b4 : M9.1 13 = upd (MM.1 13) pn (nI c) := by rw [e9, wI_ne _ _ (by decide), e7, wI_same]
      refine ⟨a1.trans a2.symm, s, f, pn + 1, fun i => if i = pn then c else pg i, cr, cs, hX.cg (fun n g1 g2 => b0 n (by omega) (by omega)), hM.cg (fun j hj => b2 j (by omega)) (fun n g1 g2 => b1 n (by omega) (by omega)), hV, ⟨a1, a2, by omega, fun i hi => ?_⟩, ⟨by rw [b0 0 (by decide) (by decide)]; exact c1, by rw [b2 0 (by decide)]; exact c2, by omega, by rw [b0 0 (by decide) (by decide)]; exact c4, by rw [b2 13 (by decide)]; exact c5, c6⟩, h6.cg ⟨rfl, rfl, rfl⟩ (fun _ => ⟨rfl, rfl, rfl⟩) (by rw [b0 0 (by decide) (by decide)]) (fun n g1 g2 => b0 n (by omega) (by omega)) (fun j hj => b2 j (by omega)) (fun n g1 g2 => b1 n (by omega) (by omega))⟩
      rw [b3, b4]
      show upd (MX.1 2) pn (nI c) i = nI (if i = pn then c else pg i) ∧ upd (MM.1 13) pn (nI c) i = nI (if i = pn then c else pg i) ∧ 32 ≤ (if i = pn then c else pg i) ∧ (if i = pn then c else pg i) ≤ 126
      by_cases z : i = pn
      · rw [if_pos z, z, pk_us, pk_us]
        exact ⟨rfl, rfl, by omega, by omega⟩
      · rw [if_neg z, pk_un z, pk_un z]
        exact p4 i (by omega)
    · rcases z with z | z
      · exact absurd z q
      · exact absurd z (le_nlt.mp q2)
  · refine sM_within (fun _ _ => pn_1 ?_) (fun z => ?_)
    · rw [p2]
      exact re_ pn 52 (fun q4 => absurd (show pn = 52 by omega) q4) (fun q4 => ⟨rfl, hR1⟩)
    · rcases z with z | z
      · exact absurd z q
      · exact absurd z (le_nlt.mp q2)
theorem sim_blank (k : Nat) (MX MM : Mm) (hk : k < 512) (hR : Rel k MX MM) : w_X11_blank MX (fun r MX1 => w_X12_blank MM (fun r1 MM1 => r = r1 ∧ Rel (k + 1) MX1 MM1)) := by
  obtain ⟨s, f, pn, pg, cr, cs, hX, hM, hV, ⟨p1, p2, p3, p4⟩, ⟨c1, c2, c3, c4, c5, c6⟩, h6⟩ := hR
  unfold w_X11_blank w_X12_blank
  intro M5 e5 M9 e9
  have b0 : ∀ n, n ≠ 1 → M5.1 n = MX.1 n := fun n h1 => by rw [e5, wI_ne _ _ h1]
  have b1 : ∀ n, n ≠ 0 → M9.1 n = MM.1 n := fun n h1 => by rw [e9, wI_ne _ _ h1]
  have b2 : ∀ j, j ≠ 19 → M9.1 0 j = MM.1 0 j := fun j hj => by rw [e9, wI_same, pk_un hj]
  have a1 : M5.1 1 1 = nI 0 := by rw [e5, wI_same, pk_us]; rfl
  have a2 : M9.1 0 19 = nI 0 := by rw [e9, wI_same, pk_us]; rfl
  exact ⟨p1.trans p2.symm, s, f, 0, pg, cr, cs, hX.cg (fun n g1 g2 => b0 n (by omega)), hM.cg (fun j hj => b2 j (by omega)) (fun n g1 g2 => b1 n (by omega)), hV, ⟨a1, a2, by omega, fun i hi => absurd hi (by omega)⟩, ⟨by rw [b0 0 (by decide)]; exact c1, by rw [b2 0 (by decide)]; exact c2, by omega, by rw [b0 0 (by decide)]; exact c4, by rw [b2 13 (by decide)]; exact c5, c6⟩, h6.cg ⟨rfl, rfl, rfl⟩ (fun _ => ⟨rfl, rfl, rfl⟩) (by rw [b0 0 (by decide)]) (fun n g1 g2 => b0 n (by omega)) (fun j hj => b2 j (by omega)) (fun n g1 g2 => b1 n (by omega))⟩
/-! sums -/
def sumF (g : Nat → Nat) : Nat → Nat → Nat
  | _, 0 => 0
  | v, m + 1 => g v + sumF g (v + 1) m
theorem sX_sum {b rw N : Nat} {g : Nat → Nat} {M : Mm} {post : Int32 → Mm → Prop} (hN : M.1 b 3 = nI N) (h5 : N ≤ 5) (hg : ∀ i, i < N → M.1 rw i = nI (g i)) (h : post (nI (sumF g 0 N)) M) : w_X2_sumOfPeople b rw M post := by
  have key : ∀ m v acc, v + m = N → post (nI (acc + sumF g v m)) M → w_X2_sumOfPeople_4 b rw post (m + 1) (nI acc) (nI v) M := by
    intro m
    induction m with
    | zero =>
      intro v acc hv hp
      refine pk_le N v (fun _ => hp) (fun z => absurd z (by omega)) hN
    | succ m ih =>
      intro v acc hv hp
      refine pk_le N v (fun z => absurd z (by omega)) (fun _ => ⟨vp_i (by omega) (by decide), ?_⟩) hN
      rw [cl_i (by omega), hg v (by omega), nI_add, nI_1]
      refine ih (v + 1) (acc + g v) (by omega) ?_
      rw [Nat.add_assoc]
      exact hp
  refine ⟨N + 1, key N 0 0 (by omega) ?_⟩
  rw [Nat.zero_add]
  exact h
theorem sM_tookAll {N : Nat} {g : Nat → Nat} {M : Mm} {post : Int32 → Mm → Prop} (hN : M.1 0 3 = nI N) (h5 : N ≤ 5) (hg : ∀ i, i < N → M.1 8 i = nI (g i)) (h : post (nI (sumF g 0 N)) M) : w_X12_tookAll M post := by
  have key : ∀ m v acc, v + m = N → post (nI (acc + sumF g v m)) M → w_X12_tookAll_4 post (m + 1) (nI acc) (nI v) M := by
    intro m
    induction m with
    | zero =>
      intro v acc hv hp
      refine pk_le N v (fun _ => hp) (fun z => absurd z (by omega)) hN
    | succ m ih =>
      intro v acc hv hp
      refine pk_le N v (fun z => absurd z (by omega)) (fun _ => ⟨vp_i (by omega) (by decide), ?_⟩) hN
      rw [cl_i (by omega), hg v (by omega), nI_add, nI_1]
      refine ih (v + 1) (acc + g v) (by omega) ?_
      rw [Nat.add_assoc]
      exact hp
  refine ⟨N + 1, key N 0 0 (by omega) ?_⟩
  rw [Nat.zero_add]
  exact h
theorem sM_sum1 {N : Nat} {g : Nat → Nat} {M : Mm} {post : Int32 → Mm → Prop} (hN : M.1 0 3 = nI N) (h5 : N ≤ 5) (hg : ∀ i, i < N → M.1 5 i = nI (g i)) (h : post (nI (sumF g 0 N)) M) : w_X12_sumOf 1 M post := by
  have key : ∀ m v acc, v + m = N → post (nI (acc + sumF g v m)) M → w_X12_sumOf_4 post (m + 1) 1 (nI acc) (nI v) M := by
    intro m
    induction m with
    | zero =>
      intro v acc hv hp
      refine pk_le N v (fun _ => hp) (fun z => absurd z (by omega)) hN
    | succ m ih =>
      intro v acc hv hp
      refine pk_le N v (fun z => absurd z (by omega)) (fun _ => pb_1 ⟨vp_i (by omega) (by decide), ?_⟩) hN
      rw [cl_i (by omega), hg v (by omega), nI_add, nI_1]
      refine ih (v + 1) (acc + g v) (by omega) ?_
      rw [Nat.add_assoc]
      exact hp
  refine ⟨N + 1, key N 0 0 (by omega) ?_⟩
  rw [Nat.zero_add]
  exact h
theorem sM_sum0 {N : Nat} {g : Nat → Nat} {M : Mm} {post : Int32 → Mm → Prop} (hN : M.1 0 3 = nI N) (h5 : N ≤ 5) (hg : ∀ i, i < N → M.1 6 i = nI (g i)) (h : post (nI (sumF g 0 N)) M) : w_X12_sumOf 0 M post := by
  have key : ∀ m v acc, v + m = N → post (nI (acc + sumF g v m)) M → w_X12_sumOf_4 post (m + 1) 0 (nI acc) (nI v) M := by
    intro m
    induction m with
    | zero =>
      intro v acc hv hp
      refine pk_le N v (fun _ => hp) (fun z => absurd z (by omega)) hN
    | succ m ih =>
      intro v acc hv hp
      refine pk_le N v (fun z => absurd z (by omega)) (fun _ => pb_0 ⟨vp_i (by omega) (by decide), ?_⟩) hN
      rw [cl_i (by omega), hg v (by omega), nI_add, nI_1]
      refine ih (v + 1) (acc + g v) (by omega) ?_
      rw [Nat.add_assoc]
      exact hp
  refine ⟨N + 1, key N 0 0 (by omega) ?_⟩
  rw [Nat.zero_add]
  exact h
def is0 (g : Nat → Nat) (v : Nat) : Nat := if g v = 0 then 1 else 0
theorem sX_zero {b N : Nat} {g : Nat → Nat} {M : Mm} {post : Int32 → Mm → Prop} (hN : M.1 b 3 = nI N) (h5 : N ≤ 5) (hg : ∀ i, i < N → M.1 (b + 13) i = nI (g i) ∧ g i < 100) (h : post (nI (sumF (is0 g) 0 N)) M) : w_X2_peopleInRoomZero b M post := by
  have key : ∀ m v acc, v + m = N → post (nI (acc + sumF (is0 g) v m)) M → w_X2_peopleInRoomZero_4 b post (m + 1) (nI acc) (nI v) M := by
    intro m
    induction m with
    | zero =>
      intro v acc hv hp
      refine pk_le N v (fun _ => hp) (fun z => absurd z (by omega)) hN
    | succ m ih =>
      intro v acc hv hp
      refine pk_le N v (fun z => absurd z (by omega)) (fun _ => ⟨vp_i (by omega) (by decide), ?_⟩) hN
      have gv := hg v (by omega)
      rw [cl_i (by omega), gv.1]
      have hp' : post (nI (acc + (is0 g v + sumF (is0 g) (v + 1) m))) M := hp
      unfold is0 at hp'
      refine re_ (g v) 0 (fun z => ?_) (fun z => ?_)
      · rw [if_neg z] at hp'
        rw [nI_1]
        refine ih (v + 1) acc (by omega) ?_
        rw [Nat.zero_add] at hp'
        exact hp'
      · rw [if_pos z] at hp'
        rw [nI_1, nI_1]
        refine ih (v + 1) (acc + 1) (by omega) ?_
        rw [← Nat.add_assoc] at hp'
        exact hp'
  refine ⟨N + 1, key N 0 0 (by omega) ?_⟩
  rw [Nat.zero_add]
  exact h
theorem sM_zero {N : Nat} {g : Nat → Nat} {M : Mm} {post : Int32 → Mm → Prop} (hN : M.1 0 3 = nI N) (h5 : N ≤ 5) (hg : ∀ i, i < N → M.1 7 i = nI (g i) ∧ g i < 100) (h : post (nI (sumF (is0 g) 0 N)) M) : w_X12_inRoom 0 M post := by
  have key : ∀ m v acc, v + m = N → post (nI (acc + sumF (is0 g) v m)) M → w_X12_inRoom_4 post (m + 1) 0 (nI acc) (nI v) M := by
    intro m
    induction m with
    | zero =>
      intro v acc hv hp
      refine pk_le N v (fun _ => hp) (fun z => absurd z (by omega)) hN
    | succ m ih =>
      intro v acc hv hp
      refine pk_le N v (fun z => absurd z (by omega)) (fun _ => ⟨vp_i (by omega) (by decide), ?_⟩) hN
      have gv := hg v (by omega)
      rw [cl_i (by omega), gv.1]
      have hp' : post (nI (acc + (is0 g v + sumF (is0 g) (v + 1) m))) M := hp
      unfold is0 at hp'
      refine re_ (g v) 0 (fun z => ?_) (fun z => ?_)
      · rw [if_neg z] at hp'
        rw [← nI_0, nI_add, nI_1]
        refine ih (v + 1) (acc + 0) (by omega) ?_
        rw [Nat.zero_add] at hp'
        exact hp'
      · rw [if_pos z] at hp'
        rw [nI_1, nI_1]
        refine ih (v + 1) (acc + 1) (by omega) ?_
        rw [← Nat.add_assoc] at hp'
        exact hp'
  refine ⟨N + 1, key N 0 0 (by omega) ?_⟩
  rw [Nat.zero_add]
  exact h
/-- run: whatever is asked of the answer v and the memory M1 behind it, holds -/
def Ev (w : (Int32 → Mm → Prop) → Prop) (v : Int32) (M1 : Mm) : Prop := ∀ post : Int32 → Mm → Prop, post v M1 → w post
theorem count_both {k : Nat} {MX MM : Mm} (x : Int32) (hR : Rel k MX MM) : ∃ v, Ev (w_X11_count x MX) v MX ∧ Ev (w_X12_howMany x MM) v MM := by
  obtain ⟨s, f, pn, pg, cr, cs, hX, hM, hV, ⟨p1, p2, p3, p4⟩, ⟨c1, c2, c3, c4, c5, c6⟩, h6⟩ := hR
  have h5 := hV.1.2.2.1
  have hz : ∀ i, i < s 2 → f 6 i < 100 := fun i hi => by have := hV.2.2.2.1 i hi; have := hV.1.1; omega
  unfold Ev w_X11_count w_X12_howMany
  by_cases q0 : x = 0
  · exact ⟨nI (s 0), fun post h => pb_t q0 ((H3_rooms hX).symm ▸ h), fun post h => pb_t q0 ((hM.rooms).symm ▸ h)⟩
  by_cases q1 : x = 1
  · exact ⟨nI (s 1), fun post h => pb_f q0 (pb_t q1 ((H3_passages hX).symm ▸ h)), fun post h => pb_f q0 (pb_t q1 ((hM.passages).symm ▸ h))⟩
  by_cases q2 : x = 2
  · exact ⟨nI (s 2), fun post h => pb_f q0 (pb_f q1 (pb_t q2 ((H3_people hX).symm ▸ h))), fun post h => pb_f q0 (pb_f q1 (pb_t q2 ((hM.people).symm ▸ h)))⟩
  by_cases q3 : x = 3
  · exact ⟨nI (sumF (f 4) 0 (s 2)), fun post h => pb_f q0 (pb_f q1 (pb_f q2 (pb_t q3 (sX_sum (H3_people hX) h5 (g := f 4) (fun i hi => H3_deed hX (by omega)) h)))), fun post h => pb_f q0 (pb_f q1 (pb_f q2 (pb_t q3 (sM_sum1 hM.people h5 (g := f 4) (fun i hi => hM.deed (by omega)) h))))⟩
  by_cases q4 : x = 4
  · exact ⟨nI (sumF (f 5) 0 (s 2)), fun post h => pb_f q0 (pb_f q1 (pb_f q2 (pb_f q3 (pb_t q4 (sX_sum (H3_people hX) h5 (g := f 5) (fun i hi => H3_lie hX (by omega)) h))))), fun post h => pb_f q0 (pb_f q1 (pb_f q2 (pb_f q3 (pb_t q4 (sM_sum0 hM.people h5 (g := f 5) (fun i hi => hM.lie (by omega)) h)))))⟩
  by_cases q5 : x = 5
  · exact ⟨nI (sumF (f 7) 0 (s 2)), fun post h => pb_f q0 (pb_f q1 (pb_f q2 (pb_f q3 (pb_f q4 (pb_t q5 (sX_sum (H3_people hX) h5 (g := f 7) (fun i hi => H3_took hX (by omega)) h)))))), fun post h => pb_f q0 (pb_f q1 (pb_f q2 (pb_f q3 (pb_f q4 (pb_t q5 (sM_tookAll hM.people h5 (g := f 7) (fun i hi => hM.took (by omega)) h))))))⟩
  by_cases q6 : x = 6
  · exact ⟨nI (s 3), fun post h => pb_f q0 (pb_f q1 (pb_f q2 (pb_f q3 (pb_f q4 (pb_f q5 (pb_t q6 ((H3_together hX).symm ▸ h))))))), fun post h => pb_f q0 (pb_f q1 (pb_f q2 (pb_f q3 (pb_f q4 (pb_f q5 (pb_t q6 ((hM.together).symm ▸ h)))))))⟩
  by_cases q7 : x = 7
  · exact ⟨nI (sumF (is0 (f 6)) 0 (s 2)), fun post h => pb_f q0 (pb_f q1 (pb_f q2 (pb_f q3 (pb_f q4 (pb_f q5 (pb_f q6 (pb_t q7 (sX_zero (H3_people hX) h5 (g := f 6) (fun i hi => ⟨H3_place hX (by omega), hz i hi⟩) h)))))))), fun post h => pb_f q0 (pb_f q1 (pb_f q2 (pb_f q3 (pb_f q4 (pb_f q5 (pb_f q6 (pb_t q7 (sM_zero hM.people h5 (g := f 6) (fun i hi => ⟨hM.place (by omega), hz i hi⟩) h))))))))⟩
  by_cases q8 : x = 8
  · exact ⟨nI (s 4), fun post h => pb_f q0 (pb_f q1 (pb_f q2 (pb_f q3 (pb_f q4 (pb_f q5 (pb_f q6 (pb_f q7 (pb_t q8 ((H3_seen hX).symm ▸ h))))))))), fun post h => pb_f q0 (pb_f q1 (pb_f q2 (pb_f q3 (pb_f q4 (pb_f q5 (pb_f q6 (pb_f q7 (pb_t q8 ((hM.seen).symm ▸ h)))))))))⟩
  by_cases q9 : x = 9
  · exact ⟨nI pn, fun post h => pb_f q0 (pb_f q1 (pb_f q2 (pb_f q3 (pb_f q4 (pb_f q5 (pb_f q6 (pb_f q7 (pb_f q8 (pb_t q9 ((p1).symm ▸ h)))))))))), fun post h => pb_f q0 (pb_f q1 (pb_f q2 (pb_f q3 (pb_f q4 (pb_f q5 (pb_f q6 (pb_f q7 (pb_f q8 (pb_t q9 ((p2).symm ▸ h))))))))))⟩
  by_cases q10 : x = 10
  · exact ⟨nI cr, fun post h => pb_f q0 (pb_f q1 (pb_f q2 (pb_f q3 (pb_f q4 (pb_f q5 (pb_f q6 (pb_f q7 (pb_f q8 (pb_f q9 (pb_t q10 ((c1).symm ▸ h))))))))))), fun post h => pb_f q0 (pb_f q1 (pb_f q2 (pb_f q3 (pb_f q4 (pb_f q5 (pb_f q6 (pb_f q7 (pb_f q8 (pb_f q9 (pb_t q10 ((c2).symm ▸ h)))))))))))⟩
  by_cases q11 : x = 11
  · exact ⟨nI cs, fun post h => pb_f q0 (pb_f q1 (pb_f q2 (pb_f q3 (pb_f q4 (pb_f q5 (pb_f q6 (pb_f q7 (pb_f q8 (pb_f q9 (pb_f q10 (pb_t q11 ((c4).symm ▸ h)))))))))))), fun post h => pb_f q0 (pb_f q1 (pb_f q2 (pb_f q3 (pb_f q4 (pb_f q5 (pb_f q6 (pb_f q7 (pb_f q8 (pb_f q9 (pb_f q10 (pb_t q11 ((c5).symm ▸ h))))))))))))⟩
  exact ⟨-102, fun post h => pb_f q0 (pb_f q1 (pb_f q2 (pb_f q3 (pb_f q4 (pb_f q5 (pb_f q6 (pb_f q7 (pb_f q8 (pb_f q9 (pb_f q10 (pb_f q11 (h)))))))))))), fun post h => pb_f q0 (pb_f q1 (pb_f q2 (pb_f q3 (pb_f q4 (pb_f q5 (pb_f q6 (pb_f q7 (pb_f q8 (pb_f q9 (pb_f q10 (pb_f q11 (h))))))))))))⟩
theorem sim_count (k : Nat) (MX MM : Mm) (x1 : Int32) (hk : k < 512) (hR : Rel k MX MM) : w_X11_count x1 MX (fun r MX1 => w_X12_count x1 MM (fun r1 MM1 => r = r1 ∧ Rel (k + 1) MX1 MM1)) := by
  obtain ⟨v, h1, h2⟩ := count_both x1 hR
  exact h1 _ (h2 _ ⟨rfl, hR.up⟩)
def isK (f : Nat → Nat → Nat) (i c : Nat) : Prop := c = 0 ∨ f 3 i = c ∨ (c = 2 ∧ f 3 i = 4)
theorem sM_as {i c : Nat} {M : Mm} {s : Nat → Nat} {f : Nat → Nat → Nat} {T : Nat} {post : Int32 → Mm → Prop} (hM : HM M s f) (hV : Vt T s f) (hi : i < s 2) (hc : c ≤ 4) (h1 : isK f i c → post (nI i) M) (h0 : ¬ isK f i c → post (-1) M) : w_X12_as (nI i) (nI c) M post := by
  have hs := hV.1.2.2.1
  have vi := hV.2.2.2.1 i hi
  unfold w_X12_as
  refine sM_isPerson hM.people (by omega) (fun a => pn_1 (sM_within (fun _ _ => pn_1 ⟨vp_i (by omega) (by decide), ?_⟩) (fun y => ?_))) (fun a => absurd ⟨i, hi, rfl⟩ a)
  · rw [cl_i (by omega), hM.kind (by omega)]
    refine pk_eq c 0 (fun z0 => h1 (Or.inl z0)) (fun z0 => pk_eq (f 3 i) c (fun z1 => h1 (Or.inr (Or.inl z1))) (fun z1 => re_ c 2 (fun z2 => h0 (fun q => ?_)) (fun z2 => re_ (f 3 i) 4 (fun z3 => h0 (fun q => ?_)) (fun z3 => h1 (Or.inr (Or.inr ⟨z2, z3⟩))))))
    · rcases q with q | q | q
      · exact z0 q
      · exact z1 q
      · exact z2 q.1
    · rcases q with q | q | q
      · exact z0 q
      · exact z1 q
      · exact z3 q.2
  · rcases y with y | y
    · exact absurd y (nI_pos (by omega))
    · exact absurd y (nI_nlt (a := 4) (b := c) hc (by decide))
theorem sX_kind {i c : Nat} {M : Mm} {s : Nat → Nat} {f : Nat → Nat → Nat} {T : Nat} {post : Int32 → Mm → Prop} (hV : Vt T s f) (hi : i < s 2) (hc : c ≤ 4) (h1 : isK f i c → post 1 M) (h0 : ¬ isK f i c → post 0 M) : w_X11_isOfKind (3 + 1 + 1 + f 3 i) (nI c) M post := by
  have vi := hV.2.2.2.1 i hi
  obtain ⟨g1, g2⟩ := kd_clk (b := 3) (by decide) (show f 3 i < 5 by omega)
  refine ⟨g1, ?_⟩
  unfold isK at h1 h0
  rcases pk5 (show f 3 i < 5 by omega) with e | e | e | e | e
  · rw [e] at g1 g2 h1 h0 ⊢
    refine Or.inl ⟨g2, ?_⟩
    unfold w_X11_isOfKind_k1
    rcases pk5 (show c < 5 by omega) with d | d | d | d | d <;> subst d
    · exact (pb_f (by decide) (pb_f (by decide) (pb_f (by decide) (pb_f (by decide) (h1 (by omega))))))
    · exact (pb_t (by decide) (h0 (by omega)))
    · exact (pb_f (by decide) (pb_t (by decide) (h0 (by omega))))
    · exact (pb_f (by decide) (pb_f (by decide) (pb_t (by decide) (h0 (by omega)))))
    · exact (pb_f (by decide) (pb_f (by decide) (pb_f (by decide) (pb_t (by decide) (h0 (by omega))))))
  · rw [e] at g1 g2 h1 h0 ⊢
    refine Or.inr (Or.inl ⟨g2, ?_⟩)
    unfold w_X11_isOfKind_k0
    rcases pk5 (show c < 5 by omega) with d | d | d | d | d <;> subst d
    · exact (pb_f (by decide) (pb_f (by decide) (pb_f (by decide) (pb_f (by decide) (h1 (by omega))))))
    · exact (pb_t (by decide) (h1 (by omega)))
    · exact (pb_f (by decide) (pb_t (by decide) (h0 (by omega))))
    · exact (pb_f (by decide) (pb_f (by decide) (pb_t (by decide) (h0 (by omega)))))
    · exact (pb_f (by decide) (pb_f (by decide) (pb_f (by decide) (pb_t (by decide) (h0 (by omega))))))
  · rw [e] at g1 g2 h1 h0 ⊢
    refine Or.inr (Or.inr (Or.inl ⟨g2, ?_⟩))
    unfold w_X11_isOfKind_k4
    rcases pk5 (show c < 5 by omega) with d | d | d | d | d <;> subst d
    · exact (pb_f (by decide) (pb_f (by decide) (pb_f (by decide) (pb_f (by decide) (h1 (by omega))))))
    · exact (pb_t (by decide) (h0 (by omega)))
    · exact (pb_f (by decide) (pb_t (by decide) (h1 (by omega))))
    · exact (pb_f (by decide) (pb_f (by decide) (pb_t (by decide) (h0 (by omega)))))
    · exact (pb_f (by decide) (pb_f (by decide) (pb_f (by decide) (pb_t (by decide) (h0 (by omega))))))
  · rw [e] at g1 g2 h1 h0 ⊢
    refine Or.inr (Or.inr (Or.inr (Or.inl ⟨g2, ?_⟩)))
    unfold w_X11_isOfKind_k9
    rcases pk5 (show c < 5 by omega) with d | d | d | d | d <;> subst d
    · exact (pb_f (by decide) (pb_f (by decide) (pb_f (by decide) (pb_f (by decide) (h1 (by omega))))))
    · exact (pb_t (by decide) (h0 (by omega)))
    · exact (pb_f (by decide) (pb_t (by decide) (h0 (by omega))))
    · exact (pb_f (by decide) (pb_f (by decide) (pb_t (by decide) (h1 (by omega)))))
    · exact (pb_f (by decide) (pb_f (by decide) (pb_f (by decide) (pb_t (by decide) (h0 (by omega))))))
  · rw [e] at g1 g2 h1 h0 ⊢
    refine Or.inr (Or.inr (Or.inr (Or.inr ⟨g2, ?_⟩)))
    unfold w_X11_isOfKind_k3
    rcases pk5 (show c < 5 by omega) with d | d | d | d | d <;> subst d
    · exact (pb_f (by decide) (pb_f (by decide) (pb_f (by decide) (pb_f (by decide) (h1 (by omega))))))
    · exact (pb_t (by decide) (h0 (by omega)))
    · exact (pb_f (by decide) (pb_t (by decide) (h1 (by omega))))
    · exact (pb_f (by decide) (pb_f (by decide) (pb_t (by decide) (h0 (by omega)))))
    · exact (pb_f (by decide) (pb_f (by decide) (pb_f (by decide) (pb_t (by decide) (h1 (by omega))))))
theorem sim_as (k : Nat) (MX MM : Mm) (x1 x2 : Int32) (hk : k < 512) (hR : Rel k MX MM) : w_X11_as x1 x2 MX (fun r MX1 => w_X12_as x1 x2 MM (fun r1 MM1 => r = r1 ∧ Rel (k + 1) MX1 MM1)) := by
  have hR1 := hR.up
  obtain ⟨s, f, pn, pg, cr, cs, hX, hM, hV, -⟩ := hR
  have hs := hV.1.2.2.1
  unfold w_X11_as
  refine sX_hasPerson hX.people (by omega) (fun h => pn_1 ?_) (fun h => pn_0 ?_)
  · have h' := h
    obtain ⟨i, hi, rfl⟩ := h
    refine ⟨fun q => ?_, fun q => ⟨fun q2 => ?_, fun q2 => ?_⟩⟩
    · unfold w_X12_as
      exact sM_isPerson hM.people (by omega) (fun a => pn_1 (sM_within (fun z _ => absurd q z) (fun _ => pn_0 ⟨rfl, hR1⟩))) (fun a => absurd h' a)
    · have q2' : x2 ≤ nI 4 := by
        rw [Int32.lt_iff_toInt_lt] at q2
        rw [Int32.le_iff_toInt_le, nI_toInt (by decide)]
        have : (5 : Int32).toInt = 5 := by decide
        omega
      obtain ⟨c, -, c4, rfl⟩ := inR (lo := 0) (hi := 4) (by decide) q q2' (by decide)
      refine sX_clerk hX hV hi (sX_kind hV hi c4 (fun z => pb_1 ?_) (fun z => pb_0 ?_))
      · exact sM_as hM hV hi c4 (fun _ => ⟨rfl, hR1⟩) (fun y => absurd z y)
      · exact sM_as hM hV hi c4 (fun y => absurd y z) (fun _ => ⟨rfl, hR1⟩)
    · unfold w_X12_as
      refine sM_isPerson hM.people (by omega) (fun a => pn_1 (sM_within (fun _ z => ?_) (fun _ => pn_0 ⟨rfl, hR1⟩))) (fun a => absurd h' a)
      rw [Int32.lt_iff_toInt_lt] at q2 z
      have e4 : (4 : Int32).toInt = 4 := by decide
      have e5 : (5 : Int32).toInt = 5 := by decide
      omega
  · unfold w_X12_as
    exact sM_isPerson hM.people (by omega) (fun a => absurd a h) (fun a => pn_0 ⟨rfl, hR1⟩)
