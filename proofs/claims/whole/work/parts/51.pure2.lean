/-! ===== steps, by kinds ===== -/
def yd (k len de li : Nat) : Nat := if k = 1 then (len + de + 2 * li + 1) / 2 else if k = 2 then len + 3 * de + 2 * li else if k = 3 then (len + de + 2 * li + 4) / 5 else if k = 4 then 2 * (len + 3 * de + 2 * li) else len + de + 2 * li
def stp (f : Nat → Nat → Nat) (i p w li : Nat) : Nat := if w = 0 then yd (f 3 i) (f 2 p) (f 4 i) li else (yd (f 3 i) (f 2 p) (f 4 i) li + yd (f 3 (w - 1)) (f 2 p) (f 4 (w - 1)) (f 5 (w - 1)) + 1) / 2
theorem yd_le (k len de li : Nat) : yd k len de li ≤ 2 * (len + 3 * de + 2 * li) := by
  unfold yd
  split
  · omega
  · split
    · omega
    · split
      · omega
      · split
        · omega
        · omega
theorem pi_1 : (1 : Int32) = nI 1 := rfl
theorem pi_2 : (2 : Int32) = nI 2 := rfl
theorem pi_3 : (3 : Int32) = nI 3 := rfl
theorem pi_4 : (4 : Int32) = nI 4 := rfl
theorem pi_5 : (5 : Int32) = nI 5 := rfl
theorem pe_c (len de li : Nat) : nI len + nI de + 2 * nI li = nI (len + de + 2 * li) := by rw [pi_2, pk_mul, nI_add, nI_add]
theorem pe_m (len de li : Nat) : nI len + 3 * nI de + 2 * nI li = nI (len + 3 * de + 2 * li) := by rw [pi_2, pi_3, pk_mul, pk_mul, nI_add, nI_add]
theorem pe_h {x : Nat} (hx : x < 2 ^ 30) : (nI x + 1) / 2 = nI ((x + 1) / 2) := by rw [pi_1, pi_2, nI_add, pk_div (by omega) (by decide) (by decide)]
theorem pe_w {x : Nat} (hx : x < 2 ^ 30) : (nI x + 4) / 5 = nI ((x + 4) / 5) := by rw [pi_4, pi_5, nI_add, pk_div (by omega) (by decide) (by decide)]
theorem pe_d (x : Nat) : 2 * nI x = nI (2 * x) := by rw [pi_2, pk_mul]
theorem pk5 {k : Nat} (h : k < 5) : k = 0 ∨ k = 1 ∨ k = 2 ∨ k = 3 ∨ k = 4 := by omega
theorem kd_clk {b k : Nat} (hb : isH b) (hk : k < 5) : b + 1 + 1 + k < 84 ∧ kdX (b + 1 + 1 + k) = ([1, 0, 4, 9, 3] : List Nat).getD k 0 := by
  rcases hb with rfl | rfl | rfl <;> rcases pk5 hk with rfl | rfl | rfl | rfl | rfl <;> exact ⟨by decide, by decide⟩
theorem sX_yards {b k len de li : Nat} {M : Mm} {post : Int32 → Mm → Prop} (hb : isH b) (hk : k < 5) (h1 : len ≤ 1000) (h2 : de ≤ 1000) (h3 : li ≤ 1000) (h : post (nI (yd k len de li)) M) : w_yards (b + 1 + 1 + k) (nI len) (nI de) (nI li) M post := by
  obtain ⟨g1, g2⟩ := kd_clk hb hk
  refine ⟨g1, ?_⟩
  rcases pk5 hk with rfl | rfl | rfl | rfl | rfl
  · refine Or.inl ⟨g2, ?_⟩
    show post _ M
    rw [pe_c]
    exact h
  · refine Or.inr (Or.inl ⟨g2, ?_⟩)
    show post _ M
    rw [pe_c, pe_h (by omega)]
    exact h
  · refine Or.inr (Or.inr (Or.inl ⟨g2, ?_⟩))
    show post _ M
    rw [pe_m]
    exact h
  · refine Or.inr (Or.inr (Or.inr (Or.inl ⟨g2, ?_⟩)))
    show post _ M
    rw [pe_c, pe_w (by omega)]
    exact h
  · refine Or.inr (Or.inr (Or.inr (Or.inr ⟨g2, ?_⟩)))
    show post _ M
    rw [pe_m, pe_d]
    exact h
theorem ne_m1 {j : Nat} (hj : j < 2 ^ 31) : ¬ nI j = -1 := by
  intro h
  have h1 := congrArg Int32.toInt h
  rw [nI_toInt hj] at h1
  have h2 : (-1 : Int32).toInt = -1 := by decide
  omega
theorem nI_m1 : (nI 0 - 1 : Int32) = -1 := by decide
theorem w_cases (w : Nat) : (w = 0 ∧ (nI w - 1 : Int32) = -1) ∨ ∃ j, w = j + 1 ∧ (nI w - 1 : Int32) = nI j := by
  cases w with
  | zero => exact Or.inl ⟨rfl, nI_m1⟩
  | succ j => exact Or.inr ⟨j, rfl, nI_pred j⟩
theorem sX_clerk {b i : Nat} {M : Mm} {s : Nat → Nat} {f : Nat → Nat → Nat} {post : Nat → Mm → Prop} (hX : HX b M s f) {T : Nat} (hV : Vt T s f) (hi : i < s 2) (h : post (b + 1 + 1 + f 3 i) M) : w_X2_clerk b (nI i) M post := by
  have hs := hV.1.2.2.1
  have hk := (hV.2.2.2.1 i hi).1
  unfold w_X2_clerk
  rw [cl_i (by omega), hX.kind (by omega), cl_i (by omega)]
  exact ⟨vp_i (by omega) (by decide), vp_i (by omega) (by decide), h⟩
theorem sX_swl {b i p w li : Nat} {M : Mm} {s : Nat → Nat} {f : Nat → Nat → Nat} {post : Int32 → Mm → Prop} (hb : isH b) (hX : HX b M s f) {T : Nat} (hV : Vt T s f) (hi : i < s 2) (hp : p < s 1) (hw : w ≤ s 2) (hl : li ≤ 9) (h : post (nI (stp f i p w li)) M) : w_X2_stepsWithLies b (nI i) (nI p) (nI w - 1) (nI li) M post := by
  have hs := hV.1.2.2.1
  have hs1 := hV.1.2.1
  have vi := hV.2.2.2.1 i hi
  have vp := hV.2.2.1 p hp
  unfold w_X2_stepsWithLies
  refine ⟨vp_i (by omega) (by decide), sX_clerk hX hV hi ⟨vp_i (by omega) (by decide), ?_⟩⟩
  rw [cl_i (show i < 2 ^ 31 by omega), cl_i (show p < 2 ^ 31 by omega), hX.len (by omega), hX.deed (by omega)]
  refine sX_yards hb (by omega) (by omega) (by omega) (by omega) ?_
  rcases w_cases w with ⟨rfl, e⟩ | ⟨j, rfl, e⟩
  · rw [e]
    refine pn_t rfl ?_
    exact h
  · rw [e]
    have vj := hV.2.2.2.1 j (by omega)
    refine pn_f (ne_m1 (by omega)) (sX_clerk hX hV (by omega) ⟨vp_i (by omega) (by decide), ?_⟩)
    rw [cl_i (show j < 2 ^ 31 by omega), hX.deed (by omega), hX.lie (by omega)]
    refine sX_yards hb (by omega) (by omega) (by omega) (by omega) ?_
    have y1 := yd_le (f 3 i) (f 2 p) (f 4 i) li
    have y2 := yd_le (f 3 j) (f 2 p) (f 4 j) (f 5 j)
    rw [nI_add, pe_h (by omega)]
    exact h
theorem sX_stepsOf {b i p w : Nat} {M : Mm} {s : Nat → Nat} {f : Nat → Nat → Nat} {post : Int32 → Mm → Prop} (hb : isH b) (hX : HX b M s f) {T : Nat} (hV : Vt T s f) (hi : i < s 2) (hp : p < s 1) (hw : w ≤ s 2) (h : post (nI (stp f i p w (f 5 i))) M) : w_X2_stepsOf b (nI i) (nI p) (nI w - 1) M post := by
  have hs := hV.1.2.2.1
  have vi := hV.2.2.2.1 i hi
  unfold w_X2_stepsOf
  refine ⟨vp_i (by omega) (by decide), ?_⟩
  rw [cl_i (by omega), hX.lie (by omega)]
  exact sX_swl hb hX hV hi hp hw (by omega) h
theorem sX_alone {b i p : Nat} {M : Mm} {s : Nat → Nat} {f : Nat → Nat → Nat} {post : Int32 → Mm → Prop} (hb : isH b) (hX : HX b M s f) {T : Nat} (hV : Vt T s f) (hi : i < s 2) (hp : p < s 1) (h : post (nI (stp f i p 0 (f 5 i))) M) : w_X2_aloneSteps b (nI i) (nI p) M post := by
  have hs := hV.1.2.2.1
  have hs1 := hV.1.2.1
  have vi := hV.2.2.2.1 i hi
  have vp := hV.2.2.1 p hp
  unfold w_X2_aloneSteps
  refine sX_clerk hX hV hi ⟨vp_i (by omega) (by decide), vp_i (by omega) (by decide), ?_⟩
  rw [cl_i (show i < 2 ^ 31 by omega), cl_i (show p < 2 ^ 31 by omega), hX.len (by omega), hX.deed (by omega), hX.lie (by omega)]
  exact sX_yards hb (by omega) (by omega) (by omega) (by omega) h
theorem pe_q (len de li : Nat) : nI (len + de + 2 * li) + 2 * nI de = nI (len + 3 * de + 2 * li) := by
  rw [pe_d, nI_add]
  exact congrArg nI (by omega)
theorem sM_alone {i p : Nat} {M : Mm} {s : Nat → Nat} {f : Nat → Nat → Nat} {post : Int32 → Mm → Prop} (hM : HM M s f) {T : Nat} (hV : Vt T s f) (hi : i < s 2) (hp : p < s 1) (li : Nat) (hl : M.1 6 i = nI li) (hl9 : li ≤ 9) (h : post (nI (stp f i p 0 li)) M) : w_X12_alone (nI i) (nI p) M post := by
  have hs := hV.1.2.2.1
  have hs1 := hV.1.2.1
  have vi := hV.2.2.2.1 i hi
  have vp := hV.2.2.1 p hp
  unfold w_X12_alone
  refine ⟨vp_i (by omega) (by decide), vp_i (by omega) (by decide), ?_⟩
  rw [cl_i (show i < 2 ^ 31 by omega), cl_i (show p < 2 ^ 31 by omega), hM.len (by omega), hM.deed (by omega), hM.kind (by omega), hl, pe_c, pe_q, pe_h (by omega), pe_w (by omega), pe_d]
  unfold stp yd at h
  rcases pk5 (show f 3 i < 5 by omega) with e | e | e | e | e <;> rw [e] at h ⊢
  · exact pb_f (by decide) (pb_f (by decide) (pb_f (by decide) (pb_f (by decide) h)))
  · exact pb_t (by decide) h
  · exact pb_f (by decide) (pb_t (by decide) h)
  · exact pb_f (by decide) (pb_f (by decide) (pb_t (by decide) h))
  · exact pb_f (by decide) (pb_f (by decide) (pb_f (by decide) (pb_t (by decide) h)))
