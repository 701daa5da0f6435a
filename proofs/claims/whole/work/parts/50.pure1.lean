/-! ===== the pure part: pictures of the two states ===== -/
def isIdx (n : Nat) (x : Int32) : Prop := ∃ i : Nat, i < n ∧ x = nI i
theorem isIdx_n {n : Nat} {x : Int32} (hn : n < 2 ^ 31) (h : ¬ isIdx n x) : x < 0 ∨ nI n ≤ x := by
  rcases pk_ix x hn with a | a | a
  · exact Or.inl a
  · exact Or.inr a
  · exact absurd a h
theorem pb_1 {A B : Prop} (b : B) : ((1 : Int32) = 0 → A) ∧ (¬ (1 : Int32) = 0 → B) := ⟨fun h => absurd h (by decide), fun _ => b⟩
theorem pb_0 {A B : Prop} (a : A) : ((0 : Int32) = 0 → A) ∧ (¬ (0 : Int32) = 0 → B) := ⟨fun _ => a, fun h => absurd rfl h⟩
theorem pn_1 {A B : Prop} (a : A) : (¬ (1 : Int32) = 0 → A) ∧ ((1 : Int32) = 0 → B) := ⟨fun _ => a, fun h => absurd h (by decide)⟩
theorem pn_0 {A B : Prop} (b : B) : (¬ (0 : Int32) = 0 → A) ∧ ((0 : Int32) = 0 → B) := ⟨fun h => absurd rfl h, fun _ => b⟩
theorem pb_t {c A B : Prop} (h : c) (a : A) : (c → A) ∧ (¬ c → B) := ⟨fun _ => a, fun q => absurd h q⟩
theorem pb_f {c A B : Prop} (h : ¬ c) (b : B) : (c → A) ∧ (¬ c → B) := ⟨fun q => absurd q h, fun _ => b⟩
theorem pn_t {c A B : Prop} (h : c) (b : B) : (¬ c → A) ∧ (c → B) := ⟨fun q => absurd h q, fun _ => b⟩
theorem pn_f {c A B : Prop} (h : ¬ c) (a : A) : (¬ c → A) ∧ (c → B) := ⟨fun _ => a, fun q => absurd q h⟩
theorem px_rng {n : Nat} {x : Int32} {P0 P1 : Prop} (hn : n < 2 ^ 31) (h1 : isIdx n x → P1) (h0 : ¬ isIdx n x → P0) : ((x < 0) → P0) ∧ ((¬ x < 0) → (((nI n ≤ x) → P0) ∧ ((¬ nI n ≤ x) → P1))) := by
  by_cases h : isIdx n x
  · have h' := h
    obtain ⟨i, hi, rfl⟩ := h
    exact ⟨fun q => absurd q (nI_pos (by omega)), fun _ => ⟨fun q => absurd q (nI_ge hi hn), fun _ => h1 h'⟩⟩
  · refine ⟨fun _ => h0 h, fun q1 => ⟨fun _ => h0 h, fun q2 => ?_⟩⟩
    rcases isIdx_n hn h with a | a
    · exact absurd a q1
    · exact absurd a q2
theorem pm_sub {n : Nat} (hn : n < 2 ^ 30) : (nI n - 1 : Int32).toInt = (n : Int) - 1 := pk_sub_toInt (a := n) (b := 1) hn (by decide)
theorem pm_rng {n : Nat} {x : Int32} {P0 P1 : Prop} (hn : n < 2 ^ 30) (h1 : isIdx n x → P1) (h0 : ¬ isIdx n x → P0) : ((x < 0) → P0) ∧ ((¬ x < 0) → (((nI n - 1 < x) → P0) ∧ ((¬ nI n - 1 < x) → P1))) := by
  by_cases h : isIdx n x
  · have h' := h
    obtain ⟨i, hi, rfl⟩ := h
    refine ⟨fun q => absurd q (nI_pos (by omega)), fun _ => ⟨fun q => ?_, fun _ => h1 h'⟩⟩
    rw [Int32.lt_iff_toInt_lt, pm_sub hn, nI_toInt (by omega)] at q
    omega
  · refine ⟨fun _ => h0 h, fun q1 => ⟨fun _ => h0 h, fun q2 => ?_⟩⟩
    rcases isIdx_n (by omega) h with a | a
    · exact absurd a q1
    · refine absurd ?_ q2
      rw [Int32.le_iff_toInt_le, nI_toInt (by omega)] at a
      rw [Int32.lt_iff_toInt_lt, pm_sub hn]
      omega
theorem vp_i {n N : Nat} (h : n < N) (hN : N < 2 ^ 31) : vp_in (nI n) N := vp_in_nI h hN
theorem cl_i {n : Nat} (h : n < 2 ^ 31) : (nI n).toNatClampNeg = n := nI_clamp h
def lnH (j : Nat) : Nat := if j < 3 then 7 else if j < 8 then 5 else 6
def enc (j x : Nat) : Int32 := if j = 10 then nI x - 1 else nI x
def HP (g : Nat → Int32) (r : Nat → Nat → Int32) (s : Nat → Nat) (f : Nat → Nat → Nat) : Prop := (∀ k, k < 5 → g k = nI (s k)) ∧ ∀ j i, j < 12 → i < lnH j → r j i = enc j (f j i)
def slX (k : Nat) : Nat := if k = 0 then 1 else if k = 1 then 2 else if k = 2 then 3 else if k = 3 then 12 else 13
def slM (k : Nat) : Nat := if k = 0 then 1 else if k = 1 then 2 else if k = 2 then 3 else if k = 3 then 12 else 14
/-- the House at b is the picture s, f: rooms, passages, people, together, seen; the twelve rows -/
def HX (b : Nat) (M : Mm) (s : Nat → Nat) (f : Nat → Nat → Nat) : Prop := HP (fun k => M.1 b (slX k)) (fun j => M.1 (b + 7 + j)) s f
def HM (M : Mm) (s : Nat → Nat) (f : Nat → Nat → Nat) : Prop := HP (fun k => M.1 0 (slM k)) (fun j => M.1 (1 + j)) s f
def ups (s : Nat → Nat) (k v : Nat) : Nat → Nat := fun i => if i = k then v else s i
def upf (f : Nat → Nat → Nat) (j i v : Nat) : Nat → Nat → Nat := fun a b => if a = j ∧ b = i then v else f a b
theorem upf_s {f : Nat → Nat → Nat} {j i v : Nat} : upf f j i v j i = v := by simp [upf]
theorem upf_n {f : Nat → Nat → Nat} {j i v a b : Nat} (h : ¬ (a = j ∧ b = i)) : upf f j i v a b = f a b := by simp [upf, h]
theorem HX.rooms {b : Nat} {M : Mm} {s : Nat → Nat} {f : Nat → Nat → Nat} (h : HX b M s f) : M.1 b 1 = nI (s 0) := h.1 0 (by decide)
theorem HM.rooms {M : Mm} {s : Nat → Nat} {f : Nat → Nat → Nat} (h : HM M s f) : M.1 0 1 = nI (s 0) := h.1 0 (by decide)
theorem HX.passages {b : Nat} {M : Mm} {s : Nat → Nat} {f : Nat → Nat → Nat} (h : HX b M s f) : M.1 b 2 = nI (s 1) := h.1 1 (by decide)
theorem HM.passages {M : Mm} {s : Nat → Nat} {f : Nat → Nat → Nat} (h : HM M s f) : M.1 0 2 = nI (s 1) := h.1 1 (by decide)
theorem HX.people {b : Nat} {M : Mm} {s : Nat → Nat} {f : Nat → Nat → Nat} (h : HX b M s f) : M.1 b 3 = nI (s 2) := h.1 2 (by decide)
theorem HM.people {M : Mm} {s : Nat → Nat} {f : Nat → Nat → Nat} (h : HM M s f) : M.1 0 3 = nI (s 2) := h.1 2 (by decide)
theorem HX.together {b : Nat} {M : Mm} {s : Nat → Nat} {f : Nat → Nat → Nat} (h : HX b M s f) : M.1 b 12 = nI (s 3) := h.1 3 (by decide)
theorem HM.together {M : Mm} {s : Nat → Nat} {f : Nat → Nat → Nat} (h : HM M s f) : M.1 0 12 = nI (s 3) := h.1 3 (by decide)
theorem HX.seen {b : Nat} {M : Mm} {s : Nat → Nat} {f : Nat → Nat → Nat} (h : HX b M s f) : M.1 b 13 = nI (s 4) := h.1 4 (by decide)
theorem HM.seen {M : Mm} {s : Nat → Nat} {f : Nat → Nat → Nat} (h : HM M s f) : M.1 0 14 = nI (s 4) := h.1 4 (by decide)
theorem HX.one {b : Nat} {M : Mm} {s : Nat → Nat} {f : Nat → Nat → Nat} (h : HX b M s f) {i : Nat} (hi : i < 7) : M.1 (b + 7) i = nI (f 0 i) := h.2 0 i (by decide) hi
theorem HM.one {M : Mm} {s : Nat → Nat} {f : Nat → Nat → Nat} (h : HM M s f) {i : Nat} (hi : i < 7) : M.1 1 i = nI (f 0 i) := h.2 0 i (by decide) hi
theorem HX.other {b : Nat} {M : Mm} {s : Nat → Nat} {f : Nat → Nat → Nat} (h : HX b M s f) {i : Nat} (hi : i < 7) : M.1 (b + 8) i = nI (f 1 i) := h.2 1 i (by decide) hi
theorem HM.other {M : Mm} {s : Nat → Nat} {f : Nat → Nat → Nat} (h : HM M s f) {i : Nat} (hi : i < 7) : M.1 2 i = nI (f 1 i) := h.2 1 i (by decide) hi
theorem HX.len {b : Nat} {M : Mm} {s : Nat → Nat} {f : Nat → Nat → Nat} (h : HX b M s f) {i : Nat} (hi : i < 7) : M.1 (b + 9) i = nI (f 2 i) := h.2 2 i (by decide) hi
theorem HM.len {M : Mm} {s : Nat → Nat} {f : Nat → Nat → Nat} (h : HM M s f) {i : Nat} (hi : i < 7) : M.1 3 i = nI (f 2 i) := h.2 2 i (by decide) hi
theorem HX.kind {b : Nat} {M : Mm} {s : Nat → Nat} {f : Nat → Nat → Nat} (h : HX b M s f) {i : Nat} (hi : i < 5) : M.1 (b + 10) i = nI (f 3 i) := h.2 3 i (by decide) hi
theorem HM.kind {M : Mm} {s : Nat → Nat} {f : Nat → Nat → Nat} (h : HM M s f) {i : Nat} (hi : i < 5) : M.1 4 i = nI (f 3 i) := h.2 3 i (by decide) hi
theorem HX.deed {b : Nat} {M : Mm} {s : Nat → Nat} {f : Nat → Nat → Nat} (h : HX b M s f) {i : Nat} (hi : i < 5) : M.1 (b + 11) i = nI (f 4 i) := h.2 4 i (by decide) hi
theorem HM.deed {M : Mm} {s : Nat → Nat} {f : Nat → Nat → Nat} (h : HM M s f) {i : Nat} (hi : i < 5) : M.1 5 i = nI (f 4 i) := h.2 4 i (by decide) hi
theorem HX.lie {b : Nat} {M : Mm} {s : Nat → Nat} {f : Nat → Nat → Nat} (h : HX b M s f) {i : Nat} (hi : i < 5) : M.1 (b + 12) i = nI (f 5 i) := h.2 5 i (by decide) hi
theorem HM.lie {M : Mm} {s : Nat → Nat} {f : Nat → Nat → Nat} (h : HM M s f) {i : Nat} (hi : i < 5) : M.1 6 i = nI (f 5 i) := h.2 5 i (by decide) hi
theorem HX.place {b : Nat} {M : Mm} {s : Nat → Nat} {f : Nat → Nat → Nat} (h : HX b M s f) {i : Nat} (hi : i < 5) : M.1 (b + 13) i = nI (f 6 i) := h.2 6 i (by decide) hi
theorem HM.place {M : Mm} {s : Nat → Nat} {f : Nat → Nat → Nat} (h : HM M s f) {i : Nat} (hi : i < 5) : M.1 7 i = nI (f 6 i) := h.2 6 i (by decide) hi
theorem HX.took {b : Nat} {M : Mm} {s : Nat → Nat} {f : Nat → Nat → Nat} (h : HX b M s f) {i : Nat} (hi : i < 5) : M.1 (b + 14) i = nI (f 7 i) := h.2 7 i (by decide) hi
theorem HM.took {M : Mm} {s : Nat → Nat} {f : Nat → Nat → Nat} (h : HM M s f) {i : Nat} (hi : i < 5) : M.1 8 i = nI (f 7 i) := h.2 7 i (by decide) hi
theorem HX.sper {b : Nat} {M : Mm} {s : Nat → Nat} {f : Nat → Nat → Nat} (h : HX b M s f) {i : Nat} (hi : i < 6) : M.1 (b + 15) i = nI (f 8 i) := h.2 8 i (by decide) hi
theorem HM.sper {M : Mm} {s : Nat → Nat} {f : Nat → Nat → Nat} (h : HM M s f) {i : Nat} (hi : i < 6) : M.1 9 i = nI (f 8 i) := h.2 8 i (by decide) hi
theorem HX.spas {b : Nat} {M : Mm} {s : Nat → Nat} {f : Nat → Nat → Nat} (h : HX b M s f) {i : Nat} (hi : i < 6) : M.1 (b + 16) i = nI (f 9 i) := h.2 9 i (by decide) hi
theorem HM.spas {M : Mm} {s : Nat → Nat} {f : Nat → Nat → Nat} (h : HM M s f) {i : Nat} (hi : i < 6) : M.1 10 i = nI (f 9 i) := h.2 9 i (by decide) hi
theorem HX.swith {b : Nat} {M : Mm} {s : Nat → Nat} {f : Nat → Nat → Nat} (h : HX b M s f) {i : Nat} (hi : i < 6) : M.1 (b + 17) i = nI (f 10 i) - 1 := h.2 10 i (by decide) hi
theorem HM.swith {M : Mm} {s : Nat → Nat} {f : Nat → Nat → Nat} (h : HM M s f) {i : Nat} (hi : i < 6) : M.1 11 i = nI (f 10 i) - 1 := h.2 10 i (by decide) hi
theorem HX.sstep {b : Nat} {M : Mm} {s : Nat → Nat} {f : Nat → Nat → Nat} (h : HX b M s f) {i : Nat} (hi : i < 6) : M.1 (b + 18) i = nI (f 11 i) := h.2 11 i (by decide) hi
theorem HM.sstep {M : Mm} {s : Nat → Nat} {f : Nat → Nat → Nat} (h : HM M s f) {i : Nat} (hi : i < 6) : M.1 12 i = nI (f 11 i) := h.2 11 i (by decide) hi
theorem HX.cg {b : Nat} {M M1 : Mm} {s : Nat → Nat} {f : Nat → Nat → Nat} (h : HX b M s f) (e : ∀ n, b ≤ n → n < b + 19 → M1.1 n = M.1 n) : HX b M1 s f :=
  ⟨fun k hk => by show M1.1 b _ = _; rw [e b (by omega) (by omega)]; exact h.1 k hk, fun j i hj hi => by show M1.1 (b + 7 + j) i = _; rw [e (b + 7 + j) (by omega) (by omega)]; exact h.2 j i hj hi⟩
theorem slM_in (k : Nat) : slM k = 1 ∨ slM k = 2 ∨ slM k = 3 ∨ slM k = 12 ∨ slM k = 14 := by
  unfold slM
  split
  · exact Or.inl rfl
  · split
    · exact Or.inr (Or.inl rfl)
    · split
      · exact Or.inr (Or.inr (Or.inl rfl))
      · split
        · exact Or.inr (Or.inr (Or.inr (Or.inl rfl)))
        · exact Or.inr (Or.inr (Or.inr (Or.inr rfl)))
theorem HM.cg {M M1 : Mm} {s : Nat → Nat} {f : Nat → Nat → Nat} (h : HM M s f) (e0 : ∀ k, k = 1 ∨ k = 2 ∨ k = 3 ∨ k = 12 ∨ k = 14 → M1.1 0 k = M.1 0 k) (e : ∀ n, 1 ≤ n → n < 13 → M1.1 n = M.1 n) : HM M1 s f :=
  ⟨fun k hk => by show M1.1 0 _ = _; rw [e0 _ (slM_in k)]; exact h.1 k hk, fun j i hj hi => by show M1.1 (1 + j) i = _; rw [e (1 + j) (by omega) (by omega)]; exact h.2 j i hj hi⟩
theorem HP.wr {g : Nat → Int32} {r : Nat → Nat → Int32} {s : Nat → Nat} {f : Nat → Nat → Nat} (h : HP g r s f) (j0 i0 v : Nat) {r1 : Nat → Nat → Int32} (e1 : r1 j0 = upd (r j0) i0 (enc j0 v)) (e2 : ∀ j, j ≠ j0 → r1 j = r j) : HP g r1 s (upf f j0 i0 v) := by
  refine ⟨h.1, fun j i hj hi => ?_⟩
  by_cases hjj : j = j0
  · subst hjj
    rw [e1]
    by_cases hii : i = i0
    · subst hii
      simp [upd, upf]
    · simp [upd, upf, hii]
      exact h.2 j i hj hi
  · rw [e2 j hjj, upf_n (fun q => hjj q.1)]
    exact h.2 j i hj hi
theorem HX.wr {b : Nat} {M M1 : Mm} {s : Nat → Nat} {f : Nat → Nat → Nat} (h : HX b M s f) (j0 i0 v : Nat) (e : M1 = wI M (b + 7 + j0) (upd (M.1 (b + 7 + j0)) i0 (enc j0 v))) : HX b M1 s (upf f j0 i0 v) := by
  subst e
  have h1 : HP (fun k => (wI M (b + 7 + j0) (upd (M.1 (b + 7 + j0)) i0 (enc j0 v))).1 b (slX k)) (fun j => M.1 (b + 7 + j)) s f := ⟨fun k hk => by show (wI M (b + 7 + j0) _).1 b _ = _; rw [wI_ne _ _ (by omega)]; exact h.1 k hk, h.2⟩
  exact HP.wr h1 j0 i0 v (wI_same _ _ _) (fun j hj => wI_ne _ _ (by omega))
theorem HM.wr {M M1 : Mm} {s : Nat → Nat} {f : Nat → Nat → Nat} (h : HM M s f) (j0 i0 v : Nat) (e : M1 = wI M (1 + j0) (upd (M.1 (1 + j0)) i0 (enc j0 v))) : HM M1 s (upf f j0 i0 v) := by
  subst e
  have h1 : HP (fun k => (wI M (1 + j0) (upd (M.1 (1 + j0)) i0 (enc j0 v))).1 0 (slM k)) (fun j => M.1 (1 + j)) s f := ⟨fun k hk => by show (wI M (1 + j0) _).1 0 _ = _; rw [wI_ne _ _ (by omega)]; exact h.1 k hk, h.2⟩
  exact HP.wr h1 j0 i0 v (wI_same _ _ _) (fun j hj => wI_ne _ _ (by omega))
theorem slX_inj {a b : Nat} (ha : a < 5) (hb : b < 5) (h : slX a = slX b) : a = b := by
  rcases (show a = 0 ∨ a = 1 ∨ a = 2 ∨ a = 3 ∨ a = 4 by omega) with rfl | rfl | rfl | rfl | rfl <;> rcases (show b = 0 ∨ b = 1 ∨ b = 2 ∨ b = 3 ∨ b = 4 by omega) with rfl | rfl | rfl | rfl | rfl <;> first | rfl | exact absurd h (by decide)
theorem slM_inj {a b : Nat} (ha : a < 5) (hb : b < 5) (h : slM a = slM b) : a = b := by
  rcases (show a = 0 ∨ a = 1 ∨ a = 2 ∨ a = 3 ∨ a = 4 by omega) with rfl | rfl | rfl | rfl | rfl <;> rcases (show b = 0 ∨ b = 1 ∨ b = 2 ∨ b = 3 ∨ b = 4 by omega) with rfl | rfl | rfl | rfl | rfl <;> first | rfl | exact absurd h (by decide)
theorem HX.sc {b : Nat} {M M1 : Mm} {s : Nat → Nat} {f : Nat → Nat → Nat} (h : HX b M s f) (k0 v : Nat) (hk0 : k0 < 5) (e : M1 = wI M b (upd (M.1 b) (slX k0) (nI v))) : HX b M1 (ups s k0 v) f := by
  subst e
  refine ⟨fun k hk => ?_, fun j i hj hi => ?_⟩
  · show (wI M b _).1 b (slX k) = _
    rw [wI_same]
    by_cases q : k = k0
    · subst q
      simp [upd, ups]
    · have q2 : slX k ≠ slX k0 := fun z => q (slX_inj hk hk0 z)
      simp [upd, ups, q, q2]
      exact h.1 k hk
  · show (wI M b _).1 (b + 7 + j) i = _
    rw [wI_ne _ _ (by omega)]
    exact h.2 j i hj hi
theorem HM.sc {M M1 : Mm} {s : Nat → Nat} {f : Nat → Nat → Nat} (h : HM M s f) (k0 v : Nat) (hk0 : k0 < 5) (e : M1 = wI M 0 (upd (M.1 0) (slM k0) (nI v))) : HM M1 (ups s k0 v) f := by
  subst e
  refine ⟨fun k hk => ?_, fun j i hj hi => ?_⟩
  · show (wI M 0 _).1 0 (slM k) = _
    rw [wI_same]
    by_cases q : k = k0
    · subst q
      simp [upd, ups]
    · have q2 : slM k ≠ slM k0 := fun z => q (slM_inj hk hk0 z)
      simp [upd, ups, q, q2]
      exact h.1 k hk
  · show (wI M 0 _).1 (1 + j) i = _
    rw [wI_ne _ _ (by omega)]
    exact h.2 j i hj hi
/-- what a picture of a ministry keeps to -/
def Vt (T : Nat) (s : Nat → Nat) (f : Nat → Nat → Nat) : Prop := (s 0 ≤ 5 ∧ s 1 ≤ 7 ∧ s 2 ≤ 5 ∧ s 4 ≤ 6) ∧ ((s 0 = 0 ∧ s 1 = 0 ∧ s 2 = 0) ∨ (2 ≤ s 0 ∧ 1 ≤ s 1 ∧ 1 ≤ s 2)) ∧ (∀ p, p < s 1 → f 0 p < s 0 ∧ f 1 p < s 0 ∧ f 0 p ≠ f 1 p ∧ 1 ≤ f 2 p ∧ f 2 p ≤ 9) ∧ (∀ i, i < s 2 → f 3 i ≤ 4 ∧ f 4 i ≤ 9 ∧ f 5 i ≤ 9 ∧ f 6 i < s 0 ∧ f 7 i ≤ T) ∧ (∀ k, k < s 4 → f 8 k < s 2 ∧ f 9 k < s 1 ∧ f 10 k ≤ s 2 ∧ f 10 k ≠ f 8 k + 1 ∧ f 11 k ≤ 120)
abbrev Vd : (Nat → Nat) → (Nat → Nat → Nat) → Prop := Vt 9200
def KM (M : Mm) (s : Nat → Nat) (f : Nat → Nat → Nat) : Prop := (M.1 0 37 = nI (s 3) ∧ M.1 0 38 = nI (s 4)) ∧ (∀ i, i < 7 → M.1 24 i = nI (f 2 i)) ∧ (∀ i, i < 5 → M.1 25 i = nI (f 4 i) ∧ M.1 26 i = nI (f 5 i) ∧ M.1 27 i = nI (f 6 i) ∧ M.1 28 i = nI (f 7 i)) ∧ ∀ i, i < 6 → M.1 29 i = nI (f 8 i) ∧ M.1 30 i = nI (f 9 i) ∧ M.1 31 i = nI (f 10 i) - 1 ∧ M.1 32 i = nI (f 11 i)
def PgR (MX MM : Mm) (pn : Nat) (pg : Nat → Nat) : Prop := MX.1 1 1 = nI pn ∧ MM.1 0 19 = nI pn ∧ pn ≤ 52 ∧ ∀ i, i < pn → MX.1 2 i = nI (pg i) ∧ MM.1 13 i = nI (pg i) ∧ 32 ≤ pg i ∧ pg i ≤ 126
def CtR (k : Nat) (MX MM : Mm) (cr cs : Nat) : Prop := MX.1 0 7 = nI cr ∧ MM.1 0 0 = nI cr ∧ cr ≤ k ∧ MX.1 0 8 = nI cs ∧ MM.1 0 13 = nI cs ∧ cs ≤ 30
def KpR (MX MM : Mm) (s : Nat → Nat) (f : Nat → Nat → Nat) (cr : Nat) : Prop := (MX.1 0 6 = 0 ∧ (MM.1 0 35 = 0 ∨ (MM.1 0 35 = 1 ∧ ∃ e, e < cr ∧ MM.1 0 36 = nI e))) ∨ (MX.1 0 6 = 1 ∧ MM.1 0 35 = 1 ∧ MM.1 0 36 = nI cr ∧ ∃ (s2 : Nat → Nat) (f2 : Nat → Nat → Nat), HX 22 MX s2 f2 ∧ KM MM s2 f2 ∧ Vd s2 f2 ∧ (s2 0 = s 0 ∧ s2 1 = s 1 ∧ s2 2 = s 2) ∧ (∀ i, i < 7 → f2 0 i = f 0 i ∧ f2 1 i = f 1 i) ∧ ∀ i, i < 5 → f2 3 i = f 3 i)
/-- the class's memory and the reference's, behind k calls, tell the same -/
def Rel (k : Nat) (MX MM : Mm) : Prop := ∃ (s : Nat → Nat) (f : Nat → Nat → Nat) (pn : Nat) (pg : Nat → Nat) (cr cs : Nat), HX 3 MX s f ∧ HM MM s f ∧ Vd s f ∧ PgR MX MM pn pg ∧ CtR k MX MM cr cs ∧ KpR MX MM s f cr
def coX (M M1 : Mm) : Prop := ∀ n, n < 41 → M1.1 n = M.1 n
def coM (M M1 : Mm) : Prop := (∀ j, j ≠ 21 → j ≠ 22 → j ≠ 23 → M1.1 0 j = M.1 0 j) ∧ ∀ n, (1 ≤ n ∧ n ≤ 13) ∨ (24 ≤ n ∧ n ≤ 32) → M1.1 n = M.1 n
theorem coX.rf {M : Mm} : coX M M := fun _ _ => rfl
theorem coM.rf {M : Mm} : coM M M := ⟨fun _ _ _ _ => rfl, fun _ _ => rfl⟩
theorem coX.tr {M M1 M2 : Mm} (h : coX M M1) (g : coX M1 M2) : coX M M2 := fun n hn => (g n hn).trans (h n hn)
theorem coM.tr {M M1 M2 : Mm} (h : coM M M1) (g : coM M1 M2) : coM M M2 := ⟨fun j a b c => (g.1 j a b c).trans (h.1 j a b c), fun n hn => (g.2 n hn).trans (h.2 n hn)⟩
theorem coX.w {M : Mm} {n : Nat} {F : Nat → Int32} (hn : 41 ≤ n) : coX M (wI M n F) := fun j hj => wI_ne _ _ (by omega)
theorem coM.w {M : Mm} {n : Nat} {F : Nat → Int32} (hn : 14 ≤ n ∧ n ≤ 23) : coM M (wI M n F) := ⟨fun j _ _ _ => by rw [wI_ne _ _ (by omega)], fun j hj => wI_ne _ _ (by omega)⟩
theorem coM.w0 {M : Mm} {k : Nat} {x : Int32} (hk : k = 21 ∨ k = 22 ∨ k = 23) : coM M (wI M 0 (upd (M.1 0) k x)) := ⟨fun j a b c => by rw [wI_same]; have : j ≠ k := by omega
                                                                                                                                       simp [upd, this], fun j hj => wI_ne _ _ (by omega)⟩
theorem KM.cg {M M1 : Mm} {s : Nat → Nat} {f : Nat → Nat → Nat} (h : KM M s f) (c : coM M M1) : KM M1 s f := by
  obtain ⟨h1, h2, h3, h4⟩ := h
  refine ⟨⟨?_, ?_⟩, fun i hi => ?_, fun i hi => ?_, fun i hi => ?_⟩
  · rw [c.1 37 (by decide) (by decide) (by decide)]; exact h1.1
  · rw [c.1 38 (by decide) (by decide) (by decide)]; exact h1.2
  · rw [c.2 24 (by omega)]; exact h2 i hi
  · rw [c.2 25 (by omega), c.2 26 (by omega), c.2 27 (by omega), c.2 28 (by omega)]; exact h3 i hi
  · rw [c.2 29 (by omega), c.2 30 (by omega), c.2 31 (by omega), c.2 32 (by omega)]; exact h4 i hi
theorem Rel.fr {k : Nat} {MX MM MX1 MM1 : Mm} (h : Rel k MX MM) (cX : coX MX MX1) (cM : coM MM MM1) : Rel k MX1 MM1 := by
  obtain ⟨s, f, pn, pg, cr, cs, h1, h2, h3, ⟨p1, p2, p3, p4⟩, ⟨c1, c2, c3, c4, c5, c6⟩, h6⟩ := h
  have e0 := cX 0 (by omega)
  have e1 := cX 1 (by omega)
  have e2 := cX 2 (by omega)
  refine ⟨s, f, pn, pg, cr, cs, h1.cg (fun n a b => cX n (by omega)), h2.cg (fun k hk => cM.1 k (by omega) (by omega) (by omega)) (fun n a b => cM.2 n (by omega)), h3, ⟨by rw [e1]; exact p1, by rw [cM.1 19 (by decide) (by decide) (by decide)]; exact p2, p3, fun i hi => by rw [e2, cM.2 13 (by omega)]; exact p4 i hi⟩, ⟨by rw [e0]; exact c1, by rw [cM.1 0 (by decide) (by decide) (by decide)]; exact c2, c3, by rw [e0]; exact c4, by rw [cM.1 13 (by decide) (by decide) (by decide)]; exact c5, c6⟩, ?_⟩
  unfold KpR at h6 ⊢
  rw [e0, cM.1 35 (by decide) (by decide) (by decide), cM.1 36 (by decide) (by decide) (by decide)]
  rcases h6 with h6 | ⟨g1, g2, g3, s2, f2, g4, g5, g6⟩
  · exact Or.inl h6
  · exact Or.inr ⟨g1, g2, g3, s2, f2, g4.cg (fun n a b => cX n (by omega)), g5.cg cM, g6⟩
theorem Rel.up {k : Nat} {MX MM : Mm} (h : Rel k MX MM) : Rel (k + 1) MX MM := by
  obtain ⟨s, f, pn, pg, cr, cs, h1, h2, h3, h4, ⟨c1, c2, c3, c4⟩, h6⟩ := h
  exact ⟨s, f, pn, pg, cr, cs, h1, h2, h3, h4, ⟨c1, c2, by omega, c4⟩, h6⟩
