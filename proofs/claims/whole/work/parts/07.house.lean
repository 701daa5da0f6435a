def w_X1_yards (r : Nat) (x1 : Int32) (x2 : Int32) (x3 : Int32) (M : Mm) (post : Int32 → Mm → Prop) : Prop :=
  post ((x1 + x2) + ((2 : Int32) * x3)) M
set_option maxHeartbeats 4000000 in
set_option maxRecDepth 100000 in
theorem c_X1_yards (l : Launch) (D : va_G) (cy : Nat → ClassId) (ad : Nat → Nat) (A : Nat → Prop) (G : Gd A ad nsX) (r : Nat)  (x1 : Int32) (x2 : Int32) (x3 : Int32) (M : Mm) (post : Int32 → Mm → Prop) (h : w_X1_yards r x1 x2 x3 M post) : CI l yX1_yards wsX1_yards (rmL 2) D (tysC cy) A ad nsX (ceX ad cy) (ExX A ad) [.ref (ad r), .int x1, .int x2, .int x3] M post := by
  refine Met_V (cc := cX1_yards) (maxL := 4) (ret := (some .int)) (by decide) rfl G Lo_X ExX_ok (Nat.le_of_ble_eq_true rfl) rfl ?_
  intro p e s m args below meth c C hr hlk
  have C : Cx p s m args c cX1_yards 4 RX1 wsX1_yards D (tysC cy) A ad nsX (ceX ad cy) (ExX A ad) := C
  unfold w_X1_yards at h
  refine V_iload_n C 1 dX1_yards_0 rfl ?_
  refine V_iload_n C 2 dX1_yards_1 rfl ?_
  refine V_iadd C dX1_yards_2 ?_
  refine V_iconst (v := (2 : Int32)) C dX1_yards_3 (by decide) ?_
  refine V_iload_n C 3 dX1_yards_4 rfl ?_
  refine V_imul C dX1_yards_5 ?_
  refine V_iadd C dX1_yards_6 ?_
  exact V_iret C hr hlk dX1_yards_7 h
def w_X4_yards (r : Nat) (x1 : Int32) (x2 : Int32) (x3 : Int32) (M : Mm) (post : Int32 → Mm → Prop) : Prop :=
  post ((x1 + ((3 : Int32) * x2)) + ((2 : Int32) * x3)) M
set_option maxHeartbeats 4000000 in
set_option maxRecDepth 100000 in
theorem c_X4_yards (l : Launch) (D : va_G) (cy : Nat → ClassId) (ad : Nat → Nat) (A : Nat → Prop) (G : Gd A ad nsX) (r : Nat)  (x1 : Int32) (x2 : Int32) (x3 : Int32) (M : Mm) (post : Int32 → Mm → Prop) (h : w_X4_yards r x1 x2 x3 M post) : CI l yX4_yards wsX4_yards (rmL 2) D (tysC cy) A ad nsX (ceX ad cy) (ExX A ad) [.ref (ad r), .int x1, .int x2, .int x3] M post := by
  refine Met_V (cc := cX4_yards) (maxL := 4) (ret := (some .int)) (by decide) rfl G Lo_X ExX_ok (Nat.le_of_ble_eq_true rfl) rfl ?_
  intro p e s m args below meth c C hr hlk
  have C : Cx p s m args c cX4_yards 4 RX4 wsX4_yards D (tysC cy) A ad nsX (ceX ad cy) (ExX A ad) := C
  unfold w_X4_yards at h
  refine V_iload_n C 1 dX4_yards_0 rfl ?_
  refine V_iconst (v := (3 : Int32)) C dX4_yards_1 (by decide) ?_
  refine V_iload_n C 2 dX4_yards_2 rfl ?_
  refine V_imul C dX4_yards_3 ?_
  refine V_iadd C dX4_yards_4 ?_
  refine V_iconst (v := (2 : Int32)) C dX4_yards_5 (by decide) ?_
  refine V_iload_n C 3 dX4_yards_6 rfl ?_
  refine V_imul C dX4_yards_7 ?_
  refine V_iadd C dX4_yards_8 ?_
  exact V_iret C hr hlk dX4_yards_9 h
def w_X0_yards (r : Nat) (x1 : Int32) (x2 : Int32) (x3 : Int32) (M : Mm) (post : Int32 → Mm → Prop) : Prop :=
  w_X1_yards r x1 x2 x3 M (fun r1 M2 => post ((r1 + (1 : Int32)) / (2 : Int32)) M2)
set_option maxHeartbeats 4000000 in
set_option maxRecDepth 100000 in
theorem c_X0_yards (l : Launch) (D : va_G) (cy : Nat → ClassId) (ad : Nat → Nat) (A : Nat → Prop) (G : Gd A ad nsX) (r : Nat) (m_r : r < 84) (k_r : kdX r = 0) (x1 : Int32) (x2 : Int32) (x3 : Int32) (M : Mm) (post : Int32 → Mm → Prop) (h : w_X0_yards r x1 x2 x3 M post) : CI l yX0_yards wsX0_yards (rmL 3) D (tysC cy) A ad nsX (ceX ad cy) (ExX A ad) [.ref (ad r), .int x1, .int x2, .int x3] M post := by
  refine Met_V (cc := cX0_yards) (maxL := 4) (ret := (some .int)) (by decide) rfl G Lo_X ExX_ok (Nat.le_of_ble_eq_true rfl) rfl ?_
  intro p e s m args below meth c C hr hlk
  have C : Cx p s m args c cX0_yards 4 RX0 wsX0_yards D (tysC cy) A ad nsX (ceX ad cy) (ExX A ad) := C
  unfold w_X0_yards at h
  refine V_aload_n C 0 dX0_yards_0 rfl ?_
  refine V_iload_n C 1 dX0_yards_1 rfl ?_
  refine V_iload_n C 2 dX0_yards_2 rfl ?_
  refine V_iload_n C 3 dX0_yards_3 rfl ?_
  refine V_callU (q := (RX0, TX0, 0)) (rest := []) C (nsX_mem m_r) ((ceX_k0 k_r) _) rfl (c_X1_yards l D cy ad A G r x1 x2 x3 M _ h) (va_cwSU 3 C.1.2.2.2.2 gX0_yards_X1_yards_s7 rfl rfl rfl (by decide +kernel) ⟨by decide, by decide⟩) rfl rfl (Nat.le_of_ble_eq_true rfl) dX0_yards_4 (fun r1 M2 h => ?_)
  refine V_iconst (v := (1 : Int32)) C dX0_yards_7 (by decide) ?_
  refine V_iadd C dX0_yards_8 ?_
  refine V_iconst (v := (2 : Int32)) C dX0_yards_9 (by decide) ?_
  refine V_idiv C dX0_yards_10 (by decide) ?_
  exact V_iret C hr hlk dX0_yards_11 h
def w_X10_yards (r : Nat) (x1 : Int32) (x2 : Int32) (x3 : Int32) (M : Mm) (post : Int32 → Mm → Prop) : Prop :=
  w_X1_yards r x1 x2 x3 M (fun r1 M2 => post ((r1 + (4 : Int32)) / (5 : Int32)) M2)
set_option maxHeartbeats 4000000 in
set_option maxRecDepth 100000 in
theorem c_X10_yards (l : Launch) (D : va_G) (cy : Nat → ClassId) (ad : Nat → Nat) (A : Nat → Prop) (G : Gd A ad nsX) (r : Nat) (m_r : r < 84) (k_r : kdX r = 9) (x1 : Int32) (x2 : Int32) (x3 : Int32) (M : Mm) (post : Int32 → Mm → Prop) (h : w_X10_yards r x1 x2 x3 M post) : CI l yX10_yards wsX10_yards (rmL 3) D (tysC cy) A ad nsX (ceX ad cy) (ExX A ad) [.ref (ad r), .int x1, .int x2, .int x3] M post := by
  refine Met_V (cc := cX10_yards) (maxL := 4) (ret := (some .int)) (by decide) rfl G Lo_X ExX_ok (Nat.le_of_ble_eq_true rfl) rfl ?_
  intro p e s m args below meth c C hr hlk
  have C : Cx p s m args c cX10_yards 4 RX10 wsX10_yards D (tysC cy) A ad nsX (ceX ad cy) (ExX A ad) := C
  unfold w_X10_yards at h
  refine V_aload_n C 0 dX10_yards_0 rfl ?_
  refine V_iload_n C 1 dX10_yards_1 rfl ?_
  refine V_iload_n C 2 dX10_yards_2 rfl ?_
  refine V_iload_n C 3 dX10_yards_3 rfl ?_
  refine V_callU (q := (RX10, TX10, 0)) (rest := []) C (nsX_mem m_r) ((ceX_k9 k_r) _) rfl (c_X1_yards l D cy ad A G r x1 x2 x3 M _ h) (va_cwSU 3 C.1.2.2.2.2 gX10_yards_X1_yards_s7 rfl rfl rfl (by decide +kernel) ⟨by decide, by decide⟩) rfl rfl (Nat.le_of_ble_eq_true rfl) dX10_yards_4 (fun r1 M2 h => ?_)
  refine V_iconst (v := (4 : Int32)) C dX10_yards_7 (by decide) ?_
  refine V_iadd C dX10_yards_8 ?_
  refine V_iconst (v := (5 : Int32)) C dX10_yards_9 (by decide) ?_
  refine V_idiv C dX10_yards_10 (by decide) ?_
  exact V_iret C hr hlk dX10_yards_11 h
def w_X3_yards (r : Nat) (x1 : Int32) (x2 : Int32) (x3 : Int32) (M : Mm) (post : Int32 → Mm → Prop) : Prop :=
  w_X4_yards r x1 x2 x3 M (fun r1 M2 => post ((2 : Int32) * r1) M2)
set_option maxHeartbeats 4000000 in
set_option maxRecDepth 100000 in
theorem c_X3_yards (l : Launch) (D : va_G) (cy : Nat → ClassId) (ad : Nat → Nat) (A : Nat → Prop) (G : Gd A ad nsX) (r : Nat) (m_r : r < 84) (k_r : kdX r = 3) (x1 : Int32) (x2 : Int32) (x3 : Int32) (M : Mm) (post : Int32 → Mm → Prop) (h : w_X3_yards r x1 x2 x3 M post) : CI l yX3_yards wsX3_yards (rmL 3) D (tysC cy) A ad nsX (ceX ad cy) (ExX A ad) [.ref (ad r), .int x1, .int x2, .int x3] M post := by
  refine Met_V (cc := cX3_yards) (maxL := 4) (ret := (some .int)) (by decide) rfl G Lo_X ExX_ok (Nat.le_of_ble_eq_true rfl) rfl ?_
  intro p e s m args below meth c C hr hlk
  have C : Cx p s m args c cX3_yards 4 RX3 wsX3_yards D (tysC cy) A ad nsX (ceX ad cy) (ExX A ad) := C
  unfold w_X3_yards at h
  refine V_iconst (v := (2 : Int32)) C dX3_yards_0 (by decide) ?_
  refine V_aload_n C 0 dX3_yards_1 rfl ?_
  refine V_iload_n C 1 dX3_yards_2 rfl ?_
  refine V_iload_n C 2 dX3_yards_3 rfl ?_
  refine V_iload_n C 3 dX3_yards_4 rfl ?_
  refine V_callU (q := (RX3, TX3, 0)) (rest := [.int (2 : Int32)]) C (nsX_mem m_r) ((ceX_k3 k_r) _) rfl (c_X4_yards l D cy ad A G r x1 x2 x3 M _ h) (va_cwSU 3 C.1.2.2.2.2 gX3_yards_X4_yards_s7 rfl rfl rfl (by decide +kernel) ⟨by decide, by decide⟩) rfl rfl (Nat.le_of_ble_eq_true rfl) dX3_yards_5 (fun r1 M2 h => ?_)
  refine V_imul C dX3_yards_8 ?_
  exact V_iret C hr hlk dX3_yards_9 h
/-- a call of yards on a clerk of any kind -/
def w_yards (r : Nat) (x1 x2 x3 : Int32) (M : Mm) (post : Int32 → Mm → Prop) : Prop := r < 84 ∧ ((kdX r = 1 ∧ w_X1_yards r x1 x2 x3 M post) ∨ (kdX r = 0 ∧ w_X0_yards r x1 x2 x3 M post) ∨ (kdX r = 4 ∧ w_X4_yards r x1 x2 x3 M post) ∨ (kdX r = 9 ∧ w_X10_yards r x1 x2 x3 M post) ∨ (kdX r = 3 ∧ w_X3_yards r x1 x2 x3 M post))
def w_X2_isThere (b : Nat)  (M : Mm) (post : Int32 → Mm → Prop) : Prop :=
  (((M.1 b 1) ≤ 0) → (post (0 : Int32) M)) ∧ ((¬ (M.1 b 1) ≤ 0) → (post (1 : Int32) M))
theorem iw_X2_isThere_X2 : ∀ w ∈ u_ws RX2 TX2 18, w ∈ wsX2_isThere := by decide +kernel
theorem m_X2_isThere_f77 : Cond.fieldLink RX2 77 "ShameYards$House" "roomCount" "I" ∈ wsX2_isThere := by decide +kernel
set_option maxHeartbeats 4000000 in
set_option maxRecDepth 100000 in
theorem c_X2_isThere (l : Launch) (D : va_G) (cy : Nat → ClassId) (ad : Nat → Nat) (A : Nat → Prop) (G : Gd A ad nsX) (b : Nat) (h_b : isH b)  (M : Mm) (post : Int32 → Mm → Prop) (h : w_X2_isThere b M post) : CI l yX2_isThere wsX2_isThere (rmL 2) D (tysC cy) A ad nsX (ceX ad cy) (ExX A ad) [.ref (ad b)] M (fun r M' => (r = 0 ∨ r = 1) ∧ post r M') := by
  refine Met_V (cc := cX2_isThere) (maxL := 1) (ret := (some .boolean)) (by decide) rfl G Lo_X ExX_ok (Nat.le_of_ble_eq_true rfl) rfl ?_
  intro p e s m args below meth c C hr hlk
  have C : Cx p s m args c cX2_isThere 1 RX2 wsX2_isThere D (tysC cy) A ad nsX (ceX ad cy) (ExX A ad) := C
  unfold w_X2_isThere at h
  refine V_aload_n C 0 dX2_isThere_0 rfl ?_
  refine V_get (k0 := 1) (Cn := RX2) (T := TX2) (N := 18) C (hs_mem0 h_b) rfl iw_X2_isThere_X2 (by decide) rfl m_X2_isThere_f77 ((ceX_H h_b) _) rfl dX2_isThere_1 ?_
  refine V_if_le C 11 dX2_isThere_4 (by decide) (fun q1 => ?_) (fun q1 => ?_)
  · have h := h.1 q1
    refine V_iconst (v := (0 : Int32)) C dX2_isThere_11 (by decide) ?_
    exact V_zret C hr hlk (Or.inl rfl) dX2_isThere_12 h
  · have h := h.2 q1
    refine V_iconst (v := (1 : Int32)) C dX2_isThere_7 (by decide) ?_
    refine V_goto C 12 dX2_isThere_8 (by decide) ?_
    exact V_zret C hr hlk (Or.inr rfl) dX2_isThere_12 h
def w_X2_hasPerson (b : Nat) (x1 : Int32) (M : Mm) (post : Int32 → Mm → Prop) : Prop :=
  ((x1 < 0) → (post (0 : Int32) M)) ∧ ((¬ x1 < 0) → ((((M.1 b 3) ≤ x1) → (post (0 : Int32) M)) ∧ ((¬ (M.1 b 3) ≤ x1) → (post (1 : Int32) M))))
theorem iw_X2_hasPerson_X2 : ∀ w ∈ u_ws RX2 TX2 18, w ∈ wsX2_hasPerson := by decide +kernel
theorem m_X2_hasPerson_f93 : Cond.fieldLink RX2 93 "ShameYards$House" "peopleCount" "I" ∈ wsX2_hasPerson := by decide +kernel
set_option maxHeartbeats 4000000 in
set_option maxRecDepth 100000 in
theorem c_X2_hasPerson (l : Launch) (D : va_G) (cy : Nat → ClassId) (ad : Nat → Nat) (A : Nat → Prop) (G : Gd A ad nsX) (b : Nat) (h_b : isH b) (x1 : Int32) (M : Mm) (post : Int32 → Mm → Prop) (h : w_X2_hasPerson b x1 M post) : CI l yX2_hasPerson wsX2_hasPerson (rmL 2) D (tysC cy) A ad nsX (ceX ad cy) (ExX A ad) [.ref (ad b), .int x1] M (fun r M' => (r = 0 ∨ r = 1) ∧ post r M') := by
  refine Met_V (cc := cX2_hasPerson) (maxL := 2) (ret := (some .boolean)) (by decide) rfl G Lo_X ExX_ok (Nat.le_of_ble_eq_true rfl) rfl ?_
  intro p e s m args below meth c C hr hlk
  have C : Cx p s m args c cX2_hasPerson 2 RX2 wsX2_hasPerson D (tysC cy) A ad nsX (ceX ad cy) (ExX A ad) := C
  unfold w_X2_hasPerson at h
  refine V_iload_n C 1 dX2_hasPerson_0 rfl ?_
  refine V_if_lt C 16 dX2_hasPerson_1 (by decide) (fun q1 => ?_) (fun q1 => ?_)
  · have h := h.1 q1
    refine V_iconst (v := (0 : Int32)) C dX2_hasPerson_16 (by decide) ?_
    exact V_zret C hr hlk (Or.inl rfl) dX2_hasPerson_17 h
  · have h := h.2 q1
    refine V_iload_n C 1 dX2_hasPerson_4 rfl ?_
    refine V_aload_n C 0 dX2_hasPerson_5 rfl ?_
    refine V_get (k0 := 3) (Cn := RX2) (T := TX2) (N := 18) C (hs_mem0 h_b) rfl iw_X2_hasPerson_X2 (by decide) rfl m_X2_hasPerson_f93 ((ceX_H h_b) _) rfl dX2_hasPerson_6 ?_
    refine V_icmp_ge C 16 dX2_hasPerson_9 (by decide) (fun q2 => ?_) (fun q2 => ?_)
    · have h := h.1 q2
      refine V_iconst (v := (0 : Int32)) C dX2_hasPerson_16 (by decide) ?_
      exact V_zret C hr hlk (Or.inl rfl) dX2_hasPerson_17 h
    · have h := h.2 q2
      refine V_iconst (v := (1 : Int32)) C dX2_hasPerson_12 (by decide) ?_
      refine V_goto C 17 dX2_hasPerson_13 (by decide) ?_
      exact V_zret C hr hlk (Or.inr rfl) dX2_hasPerson_17 h
def w_X2_hasPassage (b : Nat) (x1 : Int32) (M : Mm) (post : Int32 → Mm → Prop) : Prop :=
  ((x1 < 0) → (post (0 : Int32) M)) ∧ ((¬ x1 < 0) → ((((M.1 b 2) ≤ x1) → (post (0 : Int32) M)) ∧ ((¬ (M.1 b 2) ≤ x1) → (post (1 : Int32) M))))
theorem iw_X2_hasPassage_X2 : ∀ w ∈ u_ws RX2 TX2 18, w ∈ wsX2_hasPassage := by decide +kernel
theorem m_X2_hasPassage_f87 : Cond.fieldLink RX2 87 "ShameYards$House" "passageCount" "I" ∈ wsX2_hasPassage := by decide +kernel
set_option maxHeartbeats 4000000 in
set_option maxRecDepth 100000 in
theorem c_X2_hasPassage (l : Launch) (D : va_G) (cy : Nat → ClassId) (ad : Nat → Nat) (A : Nat → Prop) (G : Gd A ad nsX) (b : Nat) (h_b : isH b) (x1 : Int32) (M : Mm) (post : Int32 → Mm → Prop) (h : w_X2_hasPassage b x1 M post) : CI l yX2_hasPassage wsX2_hasPassage (rmL 2) D (tysC cy) A ad nsX (ceX ad cy) (ExX A ad) [.ref (ad b), .int x1] M (fun r M' => (r = 0 ∨ r = 1) ∧ post r M') := by
  refine Met_V (cc := cX2_hasPassage) (maxL := 2) (ret := (some .boolean)) (by decide) rfl G Lo_X ExX_ok (Nat.le_of_ble_eq_true rfl) rfl ?_
  intro p e s m args below meth c C hr hlk
  have C : Cx p s m args c cX2_hasPassage 2 RX2 wsX2_hasPassage D (tysC cy) A ad nsX (ceX ad cy) (ExX A ad) := C
  unfold w_X2_hasPassage at h
  refine V_iload_n C 1 dX2_hasPassage_0 rfl ?_
  refine V_if_lt C 16 dX2_hasPassage_1 (by decide) (fun q1 => ?_) (fun q1 => ?_)
  · have h := h.1 q1
    refine V_iconst (v := (0 : Int32)) C dX2_hasPassage_16 (by decide) ?_
    exact V_zret C hr hlk (Or.inl rfl) dX2_hasPassage_17 h
  · have h := h.2 q1
    refine V_iload_n C 1 dX2_hasPassage_4 rfl ?_
    refine V_aload_n C 0 dX2_hasPassage_5 rfl ?_
    refine V_get (k0 := 2) (Cn := RX2) (T := TX2) (N := 18) C (hs_mem0 h_b) rfl iw_X2_hasPassage_X2 (by decide) rfl m_X2_hasPassage_f87 ((ceX_H h_b) _) rfl dX2_hasPassage_6 ?_
    refine V_icmp_ge C 16 dX2_hasPassage_9 (by decide) (fun q2 => ?_) (fun q2 => ?_)
    · have h := h.1 q2
      refine V_iconst (v := (0 : Int32)) C dX2_hasPassage_16 (by decide) ?_
      exact V_zret C hr hlk (Or.inl rfl) dX2_hasPassage_17 h
    · have h := h.2 q2
      refine V_iconst (v := (1 : Int32)) C dX2_hasPassage_12 (by decide) ?_
      refine V_goto C 17 dX2_hasPassage_13 (by decide) ?_
      exact V_zret C hr hlk (Or.inr rfl) dX2_hasPassage_17 h
def w_X2_hasRoom (b : Nat) (x1 : Int32) (M : Mm) (post : Int32 → Mm → Prop) : Prop :=
  ((x1 < 0) → (post (0 : Int32) M)) ∧ ((¬ x1 < 0) → ((((M.1 b 1) ≤ x1) → (post (0 : Int32) M)) ∧ ((¬ (M.1 b 1) ≤ x1) → (post (1 : Int32) M))))
theorem iw_X2_hasRoom_X2 : ∀ w ∈ u_ws RX2 TX2 18, w ∈ wsX2_hasRoom := by decide +kernel
theorem m_X2_hasRoom_f77 : Cond.fieldLink RX2 77 "ShameYards$House" "roomCount" "I" ∈ wsX2_hasRoom := by decide +kernel
set_option maxHeartbeats 4000000 in
set_option maxRecDepth 100000 in
theorem c_X2_hasRoom (l : Launch) (D : va_G) (cy : Nat → ClassId) (ad : Nat → Nat) (A : Nat → Prop) (G : Gd A ad nsX) (b : Nat) (h_b : isH b) (x1 : Int32) (M : Mm) (post : Int32 → Mm → Prop) (h : w_X2_hasRoom b x1 M post) : CI l yX2_hasRoom wsX2_hasRoom (rmL 2) D (tysC cy) A ad nsX (ceX ad cy) (ExX A ad) [.ref (ad b), .int x1] M (fun r M' => (r = 0 ∨ r = 1) ∧ post r M') := by
  refine Met_V (cc := cX2_hasRoom) (maxL := 2) (ret := (some .boolean)) (by decide) rfl G Lo_X ExX_ok (Nat.le_of_ble_eq_true rfl) rfl ?_
  intro p e s m args below meth c C hr hlk
  have C : Cx p s m args c cX2_hasRoom 2 RX2 wsX2_hasRoom D (tysC cy) A ad nsX (ceX ad cy) (ExX A ad) := C
  unfold w_X2_hasRoom at h
  refine V_iload_n C 1 dX2_hasRoom_0 rfl ?_
  refine V_if_lt C 16 dX2_hasRoom_1 (by decide) (fun q1 => ?_) (fun q1 => ?_)
  · have h := h.1 q1
    refine V_iconst (v := (0 : Int32)) C dX2_hasRoom_16 (by decide) ?_
    exact V_zret C hr hlk (Or.inl rfl) dX2_hasRoom_17 h
  · have h := h.2 q1
    refine V_iload_n C 1 dX2_hasRoom_4 rfl ?_
    refine V_aload_n C 0 dX2_hasRoom_5 rfl ?_
    refine V_get (k0 := 1) (Cn := RX2) (T := TX2) (N := 18) C (hs_mem0 h_b) rfl iw_X2_hasRoom_X2 (by decide) rfl m_X2_hasRoom_f77 ((ceX_H h_b) _) rfl dX2_hasRoom_6 ?_
    refine V_icmp_ge C 16 dX2_hasRoom_9 (by decide) (fun q2 => ?_) (fun q2 => ?_)
    · have h := h.1 q2
      refine V_iconst (v := (0 : Int32)) C dX2_hasRoom_16 (by decide) ?_
      exact V_zret C hr hlk (Or.inl rfl) dX2_hasRoom_17 h
    · have h := h.2 q2
      refine V_iconst (v := (1 : Int32)) C dX2_hasRoom_12 (by decide) ?_
      refine V_goto C 17 dX2_hasRoom_13 (by decide) ?_
      exact V_zret C hr hlk (Or.inr rfl) dX2_hasRoom_17 h
def w_X2_knows (b : Nat) (x1 : Int32) (x2 : Int32) (x3 : Int32) (M : Mm) (post : Int32 → Mm → Prop) : Prop :=
  w_X2_hasPerson b x1 M (fun r1 M2 => ((r1 = 0) → (post (0 : Int32) M2)) ∧ ((¬ r1 = 0) → (w_X2_hasPassage b x2 M2 (fun r5 M6 => ((r5 = 0) → (post (0 : Int32) M6)) ∧ ((¬ r5 = 0) → (((x3 = (-1 : Int32)) → (post (1 : Int32) M6)) ∧ ((¬ x3 = (-1 : Int32)) → (w_X2_hasPerson b x3 M6 (fun r10 M11 => ((r10 = 0) → (post (0 : Int32) M11)) ∧ ((¬ r10 = 0) → (((x3 = x1) → (post (0 : Int32) M11)) ∧ ((¬ x3 = x1) → (post (1 : Int32) M11)))))))))))))
set_option maxHeartbeats 4000000 in
set_option maxRecDepth 100000 in
theorem c_X2_knows (l : Launch) (D : va_G) (cy : Nat → ClassId) (ad : Nat → Nat) (A : Nat → Prop) (G : Gd A ad nsX) (b : Nat) (h_b : isH b) (x1 : Int32) (x2 : Int32) (x3 : Int32) (M : Mm) (post : Int32 → Mm → Prop) (h : w_X2_knows b x1 x2 x3 M post) : CI l yX2_knows wsX2_knows (rmL 3) D (tysC cy) A ad nsX (ceX ad cy) (ExX A ad) [.ref (ad b), .int x1, .int x2, .int x3] M (fun r M' => (r = 0 ∨ r = 1) ∧ post r M') := by
  refine Met_V (cc := cX2_knows) (maxL := 4) (ret := (some .boolean)) (by decide) rfl G Lo_X ExX_ok (Nat.le_of_ble_eq_true rfl) rfl ?_
  intro p e s m args below meth c C hr hlk
  have C : Cx p s m args c cX2_knows 4 RX2 wsX2_knows D (tysC cy) A ad nsX (ceX ad cy) (ExX A ad) := C
  unfold w_X2_knows at h
  refine V_aload_n C 0 dX2_knows_0 rfl ?_
  refine V_iload_n C 1 dX2_knows_1 rfl ?_
  refine V_callVi (q := (RX2, TX2, 18)) (rest := []) C (hs_mem0 h_b) ((ceX_H h_b) _) rfl (c_X2_hasPerson l D cy ad A G b h_b x1 M _ h) (cwV 1 C.1.2.2.2.2 gX2_knows_X2_hasPerson rfl rfl rfl (by decide +kernel) ⟨by decide, by decide⟩) rfl rfl (Nat.le_of_ble_eq_true rfl) dX2_knows_2 (fun r1 M2 h => ?_)
  obtain ⟨z3, h⟩ := h
  refine V_if_eq C 38 dX2_knows_5 (by decide) (fun q4 => ?_) (fun q4 => ?_)
  · have h := h.1 q4
    refine V_iconst (v := (0 : Int32)) C dX2_knows_38 (by decide) ?_
    exact V_zret C hr hlk (Or.inl rfl) dX2_knows_39 h
  · have h := h.2 q4
    refine V_aload_n C 0 dX2_knows_8 rfl ?_
    refine V_iload_n C 2 dX2_knows_9 rfl ?_
    refine V_callVi (q := (RX2, TX2, 18)) (rest := []) C (hs_mem0 h_b) ((ceX_H h_b) _) rfl (c_X2_hasPassage l D cy ad A G b h_b x2 M2 _ h) (cwV 1 C.1.2.2.2.2 gX2_knows_X2_hasPassage rfl rfl rfl (by decide +kernel) ⟨by decide, by decide⟩) rfl rfl (Nat.le_of_ble_eq_true rfl) dX2_knows_10 (fun r5 M6 h => ?_)
    obtain ⟨z7, h⟩ := h
    refine V_if_eq C 38 dX2_knows_13 (by decide) (fun q8 => ?_) (fun q8 => ?_)
    · have h := h.1 q8
      refine V_iconst (v := (0 : Int32)) C dX2_knows_38 (by decide) ?_
      exact V_zret C hr hlk (Or.inl rfl) dX2_knows_39 h
    · have h := h.2 q8
      refine V_iload_n C 3 dX2_knows_16 rfl ?_
      refine V_iconst (v := (-1 : Int32)) C dX2_knows_17 (by decide) ?_
      refine V_icmp_eq C 34 dX2_knows_18 (by decide) (fun q9 => ?_) (fun q9 => ?_)
      · have h := h.1 q9
        refine V_iconst (v := (1 : Int32)) C dX2_knows_34 (by decide) ?_
        refine V_goto C 39 dX2_knows_35 (by decide) ?_
        exact V_zret C hr hlk (Or.inr rfl) dX2_knows_39 h
      · have h := h.2 q9
        refine V_aload_n C 0 dX2_knows_21 rfl ?_
        refine V_iload_n C 3 dX2_knows_22 rfl ?_
        refine V_callVi (q := (RX2, TX2, 18)) (rest := []) C (hs_mem0 h_b) ((ceX_H h_b) _) rfl (c_X2_hasPerson l D cy ad A G b h_b x3 M6 _ h) (cwV 1 C.1.2.2.2.2 gX2_knows_X2_hasPerson rfl rfl rfl (by decide +kernel) ⟨by decide, by decide⟩) rfl rfl (Nat.le_of_ble_eq_true rfl) dX2_knows_23 (fun r10 M11 h => ?_)
        obtain ⟨z12, h⟩ := h
        refine V_if_eq C 38 dX2_knows_26 (by decide) (fun q13 => ?_) (fun q13 => ?_)
        · have h := h.1 q13
          refine V_iconst (v := (0 : Int32)) C dX2_knows_38 (by decide) ?_
          exact V_zret C hr hlk (Or.inl rfl) dX2_knows_39 h
        · have h := h.2 q13
          refine V_iload_n C 3 dX2_knows_29 rfl ?_
          refine V_iload_n C 1 dX2_knows_30 rfl ?_
          refine V_icmp_eq C 38 dX2_knows_31 (by decide) (fun q14 => ?_) (fun q14 => ?_)
          · have h := h.1 q14
            refine V_iconst (v := (0 : Int32)) C dX2_knows_38 (by decide) ?_
            exact V_zret C hr hlk (Or.inl rfl) dX2_knows_39 h
          · have h := h.2 q14
            refine V_iconst (v := (1 : Int32)) C dX2_knows_34 (by decide) ?_
            refine V_goto C 39 dX2_knows_35 (by decide) ?_
            exact V_zret C hr hlk (Or.inr rfl) dX2_knows_39 h
def w_X2_endsAt (b : Nat) (x1 : Int32) (x2 : Int32) (M : Mm) (post : Int32 → Mm → Prop) : Prop :=
  (vp_in x1 7) ∧ ((((M.1 (b + 7) x1.toNatClampNeg) = x2) → (post (1 : Int32) M)) ∧ ((¬ (M.1 (b + 7) x1.toNatClampNeg) = x2) → (((¬ (M.1 (b + 8) x1.toNatClampNeg) = x2) → (post (0 : Int32) M)) ∧ (((M.1 (b + 8) x1.toNatClampNeg) = x2) → (post (1 : Int32) M)))))
theorem iw_X2_endsAt_X2 : ∀ w ∈ u_ws RX2 TX2 18, w ∈ wsX2_endsAt := by decide +kernel
theorem m_X2_endsAt_f30 : Cond.fieldLink RX2 30 "ShameYards$House" "oneEnd" "[I" ∈ wsX2_endsAt := by decide +kernel
theorem m_X2_endsAt_f34 : Cond.fieldLink RX2 34 "ShameYards$House" "otherEnd" "[I" ∈ wsX2_endsAt := by decide +kernel
set_option maxHeartbeats 4000000 in
set_option maxRecDepth 100000 in
theorem c_X2_endsAt (l : Launch) (D : va_G) (cy : Nat → ClassId) (ad : Nat → Nat) (A : Nat → Prop) (G : Gd A ad nsX) (b : Nat) (h_b : isH b) (x1 : Int32) (x2 : Int32) (M : Mm) (post : Int32 → Mm → Prop) (h : w_X2_endsAt b x1 x2 M post) : CI l yX2_endsAt wsX2_endsAt (rmL 2) D (tysC cy) A ad nsX (ceX ad cy) (ExX A ad) [.ref (ad b), .int x1, .int x2] M (fun r M' => (r = 0 ∨ r = 1) ∧ post r M') := by
  refine Met_V (cc := cX2_endsAt) (maxL := 3) (ret := (some .boolean)) (by decide) rfl G Lo_X ExX_ok (Nat.le_of_ble_eq_true rfl) rfl ?_
  intro p e s m args below meth c C hr hlk
  have C : Cx p s m args c cX2_endsAt 3 RX2 wsX2_endsAt D (tysC cy) A ad nsX (ceX ad cy) (ExX A ad) := C
  unfold w_X2_endsAt at h
  refine V_aload_n C 0 dX2_endsAt_0 rfl ?_
  refine V_get (k0 := 4) (Cn := RX2) (T := TX2) (N := 18) C (hs_mem0 h_b) rfl iw_X2_endsAt_X2 (by decide) rfl m_X2_endsAt_f30 ((ceX_H h_b) _) rfl dX2_endsAt_1 ?_
  refine V_iload_n C 1 dX2_endsAt_4 rfl ?_
  have g1 := h.1
  have h := h.2
  refine V_iald (t0 := 1) (L := 7) C (hs_mem h_b (by decide)) (hs_7 h_b) rfl g1 dX2_endsAt_5 ?_
  refine V_iload_n C 2 dX2_endsAt_6 rfl ?_
  refine V_icmp_eq C 20 dX2_endsAt_7 (by decide) (fun q2 => ?_) (fun q2 => ?_)
  · have h := h.1 q2
    refine V_iconst (v := (1 : Int32)) C dX2_endsAt_20 (by decide) ?_
    refine V_goto C 25 dX2_endsAt_21 (by decide) ?_
    exact V_zret C hr hlk (Or.inr rfl) dX2_endsAt_25 h
  · have h := h.2 q2
    refine V_aload_n C 0 dX2_endsAt_10 rfl ?_
    refine V_get (k0 := 5) (Cn := RX2) (T := TX2) (N := 18) C (hs_mem0 h_b) rfl iw_X2_endsAt_X2 (by decide) rfl m_X2_endsAt_f34 ((ceX_H h_b) _) rfl dX2_endsAt_11 ?_
    refine V_iload_n C 1 dX2_endsAt_14 rfl ?_
    refine V_iald (t0 := 1) (L := 7) C (hs_mem h_b (by decide)) (hs_8 h_b) rfl g1 dX2_endsAt_15 ?_
    refine V_iload_n C 2 dX2_endsAt_16 rfl ?_
    refine V_icmp_ne C 24 dX2_endsAt_17 (by decide) (fun q3 => ?_) (fun q3 => ?_)
    · have h := h.1 q3
      refine V_iconst (v := (0 : Int32)) C dX2_endsAt_24 (by decide) ?_
      exact V_zret C hr hlk (Or.inl rfl) dX2_endsAt_25 h
    · have h := h.2 q3
      refine V_iconst (v := (1 : Int32)) C dX2_endsAt_20 (by decide) ?_
      refine V_goto C 25 dX2_endsAt_21 (by decide) ?_
      exact V_zret C hr hlk (Or.inr rfl) dX2_endsAt_25 h
def w_X2_across (b : Nat) (x1 : Int32) (x2 : Int32) (M : Mm) (post : Int32 → Mm → Prop) : Prop :=
  (vp_in x1 7) ∧ (((¬ (M.1 (b + 7) x1.toNatClampNeg) = x2) → (post (M.1 (b + 7) x1.toNatClampNeg) M)) ∧ (((M.1 (b + 7) x1.toNatClampNeg) = x2) → (post (M.1 (b + 8) x1.toNatClampNeg) M)))
theorem iw_X2_across_X2 : ∀ w ∈ u_ws RX2 TX2 18, w ∈ wsX2_across := by decide +kernel
theorem m_X2_across_f30 : Cond.fieldLink RX2 30 "ShameYards$House" "oneEnd" "[I" ∈ wsX2_across := by decide +kernel
theorem m_X2_across_f34 : Cond.fieldLink RX2 34 "ShameYards$House" "otherEnd" "[I" ∈ wsX2_across := by decide +kernel
set_option maxHeartbeats 4000000 in
set_option maxRecDepth 100000 in
theorem c_X2_across (l : Launch) (D : va_G) (cy : Nat → ClassId) (ad : Nat → Nat) (A : Nat → Prop) (G : Gd A ad nsX) (b : Nat) (h_b : isH b) (x1 : Int32) (x2 : Int32) (M : Mm) (post : Int32 → Mm → Prop) (h : w_X2_across b x1 x2 M post) : CI l yX2_across wsX2_across (rmL 2) D (tysC cy) A ad nsX (ceX ad cy) (ExX A ad) [.ref (ad b), .int x1, .int x2] M post := by
  refine Met_V (cc := cX2_across) (maxL := 3) (ret := (some .int)) (by decide) rfl G Lo_X ExX_ok (Nat.le_of_ble_eq_true rfl) rfl ?_
  intro p e s m args below meth c C hr hlk
  have C : Cx p s m args c cX2_across 3 RX2 wsX2_across D (tysC cy) A ad nsX (ceX ad cy) (ExX A ad) := C
  unfold w_X2_across at h
  refine V_aload_n C 0 dX2_across_0 rfl ?_
  refine V_get (k0 := 4) (Cn := RX2) (T := TX2) (N := 18) C (hs_mem0 h_b) rfl iw_X2_across_X2 (by decide) rfl m_X2_across_f30 ((ceX_H h_b) _) rfl dX2_across_1 ?_
  refine V_iload_n C 1 dX2_across_4 rfl ?_
  have g1 := h.1
  have h := h.2
  refine V_iald (t0 := 1) (L := 7) C (hs_mem h_b (by decide)) (hs_7 h_b) rfl g1 dX2_across_5 ?_
  refine V_iload_n C 2 dX2_across_6 rfl ?_
  refine V_icmp_ne C 19 dX2_across_7 (by decide) (fun q2 => ?_) (fun q2 => ?_)
  · have h := h.1 q2
    refine V_aload_n C 0 dX2_across_19 rfl ?_
    refine V_get (k0 := 4) (Cn := RX2) (T := TX2) (N := 18) C (hs_mem0 h_b) rfl iw_X2_across_X2 (by decide) rfl m_X2_across_f30 ((ceX_H h_b) _) rfl dX2_across_20 ?_
    refine V_iload_n C 1 dX2_across_23 rfl ?_
    refine V_iald (t0 := 1) (L := 7) C (hs_mem h_b (by decide)) (hs_7 h_b) rfl g1 dX2_across_24 ?_
    exact V_iret C hr hlk dX2_across_25 h
  · have h := h.2 q2
    refine V_aload_n C 0 dX2_across_10 rfl ?_
    refine V_get (k0 := 5) (Cn := RX2) (T := TX2) (N := 18) C (hs_mem0 h_b) rfl iw_X2_across_X2 (by decide) rfl m_X2_across_f34 ((ceX_H h_b) _) rfl dX2_across_11 ?_
    refine V_iload_n C 1 dX2_across_14 rfl ?_
    refine V_iald (t0 := 1) (L := 7) C (hs_mem h_b (by decide)) (hs_8 h_b) rfl g1 dX2_across_15 ?_
    refine V_goto C 25 dX2_across_16 (by decide) ?_
    exact V_iret C hr hlk dX2_across_25 h
def w_X2_doorsOf_4 (b : Nat) (post : Int32 → Mm → Prop)  : Nat → Int32 → Int32 → Int32 → Mm → Prop
  | 0 => fun _ _ _ _ => False
  | n + 1 => fun v1 v2 v3 M =>
    (((M.1 b 2) ≤ v3) → (post v2 M)) ∧ ((¬ (M.1 b 2) ≤ v3) → (w_X2_endsAt b v3 v1 M (fun r2 M3 => ((r2 = 0) → (w_X2_doorsOf_4 b post  n v1 v2 (v3 + 1) M3)) ∧ ((¬ r2 = 0) → (w_X2_doorsOf_4 b post  n v1 (v2 + 1) (v3 + 1) M3)))))
def w_X2_doorsOf (b : Nat) (x1 : Int32) (M : Mm) (post : Int32 → Mm → Prop) : Prop :=
  ∃ n0 : Nat, w_X2_doorsOf_4 b post  n0 x1 (0 : Int32) (0 : Int32) M
theorem iw_X2_doorsOf_X2 : ∀ w ∈ u_ws RX2 TX2 18, w ∈ wsX2_doorsOf := by decide +kernel
theorem m_X2_doorsOf_f87 : Cond.fieldLink RX2 87 "ShameYards$House" "passageCount" "I" ∈ wsX2_doorsOf := by decide +kernel
set_option maxHeartbeats 4000000 in
set_option maxRecDepth 100000 in
theorem c_X2_doorsOf (l : Launch) (D : va_G) (cy : Nat → ClassId) (ad : Nat → Nat) (A : Nat → Prop) (G : Gd A ad nsX) (b : Nat) (h_b : isH b) (x1 : Int32) (M : Mm) (post : Int32 → Mm → Prop) (h : w_X2_doorsOf b x1 M post) : CI l yX2_doorsOf wsX2_doorsOf (rmL 3) D (tysC cy) A ad nsX (ceX ad cy) (ExX A ad) [.ref (ad b), .int x1] M post := by
  refine Met_V (cc := cX2_doorsOf) (maxL := 4) (ret := (some .int)) (by decide) rfl G Lo_X ExX_ok (Nat.le_of_ble_eq_true rfl) rfl ?_
  intro p e s m args below meth c C hr hlk
  have C : Cx p s m args c cX2_doorsOf 4 RX2 wsX2_doorsOf D (tysC cy) A ad nsX (ceX ad cy) (ExX A ad) := C
  have L4 : ∀  (n : Nat) (v1 : Int32) (v2 : Int32) (v3 : Int32) (M : Mm), w_X2_doorsOf_4 b post  n v1 v2 v3 M → V p l e (rmL 3) s m args below meth c (MQ below (va_Qi post (Wd D (tysC cy) ad nsX (ceX ad cy) (ExX A ad)) A) args s 0 0 A) D A ad nsX (ceX ad cy) 4 M [(0, .ref (ad b)), (1, .int v1), (2, .int v2), (3, .int v3)] 4 [] := by
    intro  n
    induction n with
    | zero => intro v1 v2 v3 M h; exact h.elim
    | succ n ih =>
    intro v1 v2 v3 M h 
    unfold w_X2_doorsOf_4 at h
    refine V_iload_n C 3 dX2_doorsOf_4 rfl ?_
    refine V_aload_n C 0 dX2_doorsOf_5 rfl ?_
    refine V_get (k0 := 2) (Cn := RX2) (T := TX2) (N := 18) C (hs_mem0 h_b) rfl iw_X2_doorsOf_X2 (by decide) rfl m_X2_doorsOf_f87 ((ceX_H h_b) _) rfl dX2_doorsOf_6 ?_
    refine V_icmp_ge C 30 dX2_doorsOf_9 (by decide) (fun q1 => ?_) (fun q1 => ?_)
    · have h := h.1 q1
      refine V_iload_n C 2 dX2_doorsOf_30 rfl ?_
      exact V_iret C hr hlk dX2_doorsOf_31 h
    · have h := h.2 q1
      refine V_aload_n C 0 dX2_doorsOf_12 rfl ?_
      refine V_iload_n C 3 dX2_doorsOf_13 rfl ?_
      refine V_iload_n C 1 dX2_doorsOf_14 rfl ?_
      refine V_callVi (q := (RX2, TX2, 18)) (rest := []) C (hs_mem0 h_b) ((ceX_H h_b) _) rfl (c_X2_endsAt l D cy ad A G b h_b v3 v1 M _ h) (cwV 2 C.1.2.2.2.2 gX2_doorsOf_X2_endsAt rfl rfl rfl (by decide +kernel) ⟨by decide, by decide⟩) rfl rfl (Nat.le_of_ble_eq_true rfl) dX2_doorsOf_15 (fun r2 M3 h => ?_)
      obtain ⟨z4, h⟩ := h
      refine V_if_eq C 24 dX2_doorsOf_18 (by decide) (fun q5 => ?_) (fun q5 => ?_)
      · have h := h.1 q5
        refine V_iinc (v := (v3 + 1)) (lv' := [(3, .int (v3 + 1)), (0, .ref (ad b)), (1, .int v1), (2, .int v2)]) C 3 dX2_doorsOf_24 rfl rfl (by decide) rfl ?_
        refine V_goto C 4 dX2_doorsOf_27 (by decide) ?_
        refine V_drop (lv' := [(0, .ref (ad b)), (1, .int v1), (2, .int v2), (3, .int (v3 + 1))]) [1, 2, 3, 0] rfl ?_
        exact ih v1 v2 (v3 + 1) M3 h 
      · have h := h.2 q5
        refine V_iinc (v := (v2 + 1)) (lv' := [(2, .int (v2 + 1)), (0, .ref (ad b)), (1, .int v1), (3, .int v3)]) C 2 dX2_doorsOf_21 rfl rfl (by decide) rfl ?_
        refine V_iinc (v := (v3 + 1)) (lv' := [(3, .int (v3 + 1)), (2, .int (v2 + 1)), (0, .ref (ad b)), (1, .int v1)]) C 3 dX2_doorsOf_24 rfl rfl (by decide) rfl ?_
        refine V_goto C 4 dX2_doorsOf_27 (by decide) ?_
        refine V_drop (lv' := [(0, .ref (ad b)), (1, .int v1), (2, .int (v2 + 1)), (3, .int (v3 + 1))]) [2, 3, 1, 0] rfl ?_
        exact ih v1 (v2 + 1) (v3 + 1) M3 h 
  unfold w_X2_doorsOf at h
  refine V_iconst (v := (0 : Int32)) C dX2_doorsOf_0 (by decide) ?_
  refine V_istore_n (lv' := [(2, .int (0 : Int32)), (0, .ref (ad b)), (1, .int x1)]) C dX2_doorsOf_1 rfl (by decide) rfl ?_
  refine V_iconst (v := (0 : Int32)) C dX2_doorsOf_2 (by decide) ?_
  refine V_istore_n (lv' := [(3, .int (0 : Int32)), (2, .int (0 : Int32)), (0, .ref (ad b)), (1, .int x1)]) C dX2_doorsOf_3 rfl (by decide) rfl ?_
  refine V_drop (lv' := [(0, .ref (ad b)), (1, .int x1), (2, .int (0 : Int32)), (3, .int (0 : Int32))]) [2, 3, 1, 0] rfl ?_
  obtain ⟨n0, h⟩ := h
  exact L4  n0 x1 (0 : Int32) (0 : Int32) M h 
def w_X2_doorOf_5 (b : Nat) (post : Int32 → Mm → Prop)  : Nat → Int32 → Int32 → Int32 → Mm → Prop
  | 0 => fun _ _ _ _ => False
  | n + 1 => fun v1 v3 v4 M =>
    (((M.1 b 2) ≤ v4) → (post (-1 : Int32) M)) ∧ ((¬ (M.1 b 2) ≤ v4) → (w_X2_endsAt b v4 v1 M (fun r2 M3 => ((r2 = 0) → (w_X2_doorOf_5 b post  n v1 v3 (v4 + 1) M3)) ∧ ((¬ r2 = 0) → (((¬ v3 = 0) → (w_X2_doorOf_5 b post  n v1 (v3 + (-1)) (v4 + 1) M3)) ∧ ((v3 = 0) → (post v4 M3)))))))
def w_X2_doorOf (b : Nat) (x1 : Int32) (x2 : Int32) (M : Mm) (post : Int32 → Mm → Prop) : Prop :=
  ∃ n0 : Nat, w_X2_doorOf_5 b post  n0 x1 x2 (0 : Int32) M
theorem iw_X2_doorOf_X2 : ∀ w ∈ u_ws RX2 TX2 18, w ∈ wsX2_doorOf := by decide +kernel
theorem m_X2_doorOf_f87 : Cond.fieldLink RX2 87 "ShameYards$House" "passageCount" "I" ∈ wsX2_doorOf := by decide +kernel
set_option maxHeartbeats 4000000 in
set_option maxRecDepth 100000 in
theorem c_X2_doorOf (l : Launch) (D : va_G) (cy : Nat → ClassId) (ad : Nat → Nat) (A : Nat → Prop) (G : Gd A ad nsX) (b : Nat) (h_b : isH b) (x1 : Int32) (x2 : Int32) (M : Mm) (post : Int32 → Mm → Prop) (h : w_X2_doorOf b x1 x2 M post) : CI l yX2_doorOf wsX2_doorOf (rmL 3) D (tysC cy) A ad nsX (ceX ad cy) (ExX A ad) [.ref (ad b), .int x1, .int x2] M post := by
  refine Met_V (cc := cX2_doorOf) (maxL := 5) (ret := (some .int)) (by decide) rfl G Lo_X ExX_ok (Nat.le_of_ble_eq_true rfl) rfl ?_
  intro p e s m args below meth c C hr hlk
  have C : Cx p s m args c cX2_doorOf 5 RX2 wsX2_doorOf D (tysC cy) A ad nsX (ceX ad cy) (ExX A ad) := C
  have L5 : ∀  (n : Nat) (v1 : Int32) (v3 : Int32) (v4 : Int32) (M : Mm), w_X2_doorOf_5 b post  n v1 v3 v4 M → V p l e (rmL 3) s m args below meth c (MQ below (va_Qi post (Wd D (tysC cy) ad nsX (ceX ad cy) (ExX A ad)) A) args s 0 0 A) D A ad nsX (ceX ad cy) 5 M [(0, .ref (ad b)), (1, .int v1), (3, .int v3), (4, .int v4)] 5 [] := by
    intro  n
    induction n with
    | zero => intro v1 v3 v4 M h; exact h.elim
    | succ n ih =>
    intro v1 v3 v4 M h 
    unfold w_X2_doorOf_5 at h
    refine V_iload C 3 dX2_doorOf_5 rfl ?_
    refine V_aload_n C 0 dX2_doorOf_7 rfl ?_
    refine V_get (k0 := 2) (Cn := RX2) (T := TX2) (N := 18) C (hs_mem0 h_b) rfl iw_X2_doorOf_X2 (by decide) rfl m_X2_doorOf_f87 ((ceX_H h_b) _) rfl dX2_doorOf_8 ?_
    refine V_icmp_ge C 40 dX2_doorOf_11 (by decide) (fun q1 => ?_) (fun q1 => ?_)
    · have h := h.1 q1
      refine V_iconst (v := (-1 : Int32)) C dX2_doorOf_40 (by decide) ?_
      exact V_iret C hr hlk dX2_doorOf_41 h
    · have h := h.2 q1
      refine V_aload_n C 0 dX2_doorOf_14 rfl ?_
      refine V_iload C 3 dX2_doorOf_15 rfl ?_
      refine V_iload_n C 1 dX2_doorOf_17 rfl ?_
      refine V_callVi (q := (RX2, TX2, 18)) (rest := []) C (hs_mem0 h_b) ((ceX_H h_b) _) rfl (c_X2_endsAt l D cy ad A G b h_b v4 v1 M _ h) (cwV 2 C.1.2.2.2.2 gX2_doorOf_X2_endsAt rfl rfl rfl (by decide +kernel) ⟨by decide, by decide⟩) rfl rfl (Nat.le_of_ble_eq_true rfl) dX2_doorOf_18 (fun r2 M3 h => ?_)
      obtain ⟨z4, h⟩ := h
      refine V_if_eq C 34 dX2_doorOf_21 (by decide) (fun q5 => ?_) (fun q5 => ?_)
      · have h := h.1 q5
        refine V_iinc (v := (v4 + 1)) (lv' := [(4, .int (v4 + 1)), (0, .ref (ad b)), (1, .int v1), (3, .int v3)]) C 3 dX2_doorOf_34 rfl rfl (by decide) rfl ?_
        refine V_goto C 5 dX2_doorOf_37 (by decide) ?_
        refine V_drop (lv' := [(0, .ref (ad b)), (1, .int v1), (3, .int v3), (4, .int (v4 + 1))]) [1, 2, 3, 0] rfl ?_
        exact ih v1 v3 (v4 + 1) M3 h 
      · have h := h.2 q5
        refine V_iload_n C 2 dX2_doorOf_24 rfl ?_
        refine V_if_ne C 31 dX2_doorOf_25 (by decide) (fun q6 => ?_) (fun q6 => ?_)
        · have h := h.1 q6
          refine V_iinc (v := (v3 + (-1))) (lv' := [(3, .int (v3 + (-1))), (0, .ref (ad b)), (1, .int v1), (4, .int v4)]) C 2 dX2_doorOf_31 rfl rfl (by decide) rfl ?_
          refine V_iinc (v := (v4 + 1)) (lv' := [(4, .int (v4 + 1)), (3, .int (v3 + (-1))), (0, .ref (ad b)), (1, .int v1)]) C 3 dX2_doorOf_34 rfl rfl (by decide) rfl ?_
          refine V_goto C 5 dX2_doorOf_37 (by decide) ?_
          refine V_drop (lv' := [(0, .ref (ad b)), (1, .int v1), (3, .int (v3 + (-1))), (4, .int (v4 + 1))]) [2, 3, 1, 0] rfl ?_
          exact ih v1 (v3 + (-1)) (v4 + 1) M3 h 
        · have h := h.2 q6
          refine V_iload C 3 dX2_doorOf_28 rfl ?_
          exact V_iret C hr hlk dX2_doorOf_30 h
  unfold w_X2_doorOf at h
  refine V_iload_n C 2 dX2_doorOf_0 rfl ?_
  refine V_istore_n (lv' := [(3, .int x2), (0, .ref (ad b)), (1, .int x1), (2, .int x2)]) C dX2_doorOf_1 rfl (by decide) rfl ?_
  refine V_iconst (v := (0 : Int32)) C dX2_doorOf_2 (by decide) ?_
  refine V_istore (lv' := [(4, .int (0 : Int32)), (3, .int x2), (0, .ref (ad b)), (1, .int x1), (2, .int x2)]) C dX2_doorOf_3 (by decide) rfl ?_
  refine V_drop (lv' := [(0, .ref (ad b)), (1, .int x1), (3, .int x2), (4, .int (0 : Int32))]) [2, 3, 1, 0] rfl ?_
  obtain ⟨n0, h⟩ := h
  exact L5  n0 x1 x2 (0 : Int32) M h 
def w_X2_mayLeaveBy (b : Nat) (x1 : Int32) (x2 : Int32) (x3 : Int32) (M : Mm) (post : Int32 → Mm → Prop) : Prop :=
  (vp_in x1 5) ∧ (w_X2_endsAt b x2 (M.1 (b + 13) x1.toNatClampNeg) M (fun r2 M3 => ((r2 = 0) → (post (0 : Int32) M3)) ∧ ((¬ r2 = 0) → (((x3 = (-1 : Int32)) → (post (1 : Int32) M3)) ∧ ((¬ x3 = (-1 : Int32)) → ((vp_in x3 5) ∧ (((¬ (M3.1 (b + 13) x3.toNatClampNeg) = (M3.1 (b + 13) x1.toNatClampNeg)) → (post (0 : Int32) M3)) ∧ (((M3.1 (b + 13) x3.toNatClampNeg) = (M3.1 (b + 13) x1.toNatClampNeg)) → (post (1 : Int32) M3)))))))))
theorem iw_X2_mayLeaveBy_X2 : ∀ w ∈ u_ws RX2 TX2 18, w ∈ wsX2_mayLeaveBy := by decide +kernel
theorem m_X2_mayLeaveBy_f49 : Cond.fieldLink RX2 49 "ShameYards$House" "places" "[I" ∈ wsX2_mayLeaveBy := by decide +kernel
set_option maxHeartbeats 4000000 in
set_option maxRecDepth 100000 in
theorem c_X2_mayLeaveBy (l : Launch) (D : va_G) (cy : Nat → ClassId) (ad : Nat → Nat) (A : Nat → Prop) (G : Gd A ad nsX) (b : Nat) (h_b : isH b) (x1 : Int32) (x2 : Int32) (x3 : Int32) (M : Mm) (post : Int32 → Mm → Prop) (h : w_X2_mayLeaveBy b x1 x2 x3 M post) : CI l yX2_mayLeaveBy wsX2_mayLeaveBy (rmL 3) D (tysC cy) A ad nsX (ceX ad cy) (ExX A ad) [.ref (ad b), .int x1, .int x2, .int x3] M (fun r M' => (r = 0 ∨ r = 1) ∧ post r M') := by
  refine Met_V (cc := cX2_mayLeaveBy) (maxL := 4) (ret := (some .boolean)) (by decide) rfl G Lo_X ExX_ok (Nat.le_of_ble_eq_true rfl) rfl ?_
  intro p e s m args below meth c C hr hlk
  have C : Cx p s m args c cX2_mayLeaveBy 4 RX2 wsX2_mayLeaveBy D (tysC cy) A ad nsX (ceX ad cy) (ExX A ad) := C
  unfold w_X2_mayLeaveBy at h
  refine V_aload_n C 0 dX2_mayLeaveBy_0 rfl ?_
  refine V_iload_n C 2 dX2_mayLeaveBy_1 rfl ?_
  refine V_aload_n C 0 dX2_mayLeaveBy_2 rfl ?_
  refine V_get (k0 := 10) (Cn := RX2) (T := TX2) (N := 18) C (hs_mem0 h_b) rfl iw_X2_mayLeaveBy_X2 (by decide) rfl m_X2_mayLeaveBy_f49 ((ceX_H h_b) _) rfl dX2_mayLeaveBy_3 ?_
  refine V_iload_n C 1 dX2_mayLeaveBy_6 rfl ?_
  have g1 := h.1
  have h := h.2
  refine V_iald (t0 := 1) (L := 5) C (hs_mem h_b (by decide)) (hs_13 h_b) rfl g1 dX2_mayLeaveBy_7 ?_
  refine V_callVi (q := (RX2, TX2, 18)) (rest := []) C (hs_mem0 h_b) ((ceX_H h_b) _) rfl (c_X2_endsAt l D cy ad A G b h_b x2 (M.1 (b + 13) x1.toNatClampNeg) M _ h) (cwV 2 C.1.2.2.2.2 gX2_mayLeaveBy_X2_endsAt rfl rfl rfl (by decide +kernel) ⟨by decide, by decide⟩) rfl rfl (Nat.le_of_ble_eq_true rfl) dX2_mayLeaveBy_8 (fun r2 M3 h => ?_)
  obtain ⟨z4, h⟩ := h
  refine V_if_eq C 38 dX2_mayLeaveBy_11 (by decide) (fun q5 => ?_) (fun q5 => ?_)
  · have h := h.1 q5
    refine V_iconst (v := (0 : Int32)) C dX2_mayLeaveBy_38 (by decide) ?_
    exact V_zret C hr hlk (Or.inl rfl) dX2_mayLeaveBy_39 h
  · have h := h.2 q5
    refine V_iload_n C 3 dX2_mayLeaveBy_14 rfl ?_
    refine V_iconst (v := (-1 : Int32)) C dX2_mayLeaveBy_15 (by decide) ?_
    refine V_icmp_eq C 34 dX2_mayLeaveBy_16 (by decide) (fun q6 => ?_) (fun q6 => ?_)
    · have h := h.1 q6
      refine V_iconst (v := (1 : Int32)) C dX2_mayLeaveBy_34 (by decide) ?_
      refine V_goto C 39 dX2_mayLeaveBy_35 (by decide) ?_
      exact V_zret C hr hlk (Or.inr rfl) dX2_mayLeaveBy_39 h
    · have h := h.2 q6
      refine V_aload_n C 0 dX2_mayLeaveBy_19 rfl ?_
      refine V_get (k0 := 10) (Cn := RX2) (T := TX2) (N := 18) C (hs_mem0 h_b) rfl iw_X2_mayLeaveBy_X2 (by decide) rfl m_X2_mayLeaveBy_f49 ((ceX_H h_b) _) rfl dX2_mayLeaveBy_20 ?_
      refine V_iload_n C 3 dX2_mayLeaveBy_23 rfl ?_
      have g7 := h.1
      have h := h.2
      refine V_iald (t0 := 1) (L := 5) C (hs_mem h_b (by decide)) (hs_13 h_b) rfl g7 dX2_mayLeaveBy_24 ?_
      refine V_aload_n C 0 dX2_mayLeaveBy_25 rfl ?_
      refine V_get (k0 := 10) (Cn := RX2) (T := TX2) (N := 18) C (hs_mem0 h_b) rfl iw_X2_mayLeaveBy_X2 (by decide) rfl m_X2_mayLeaveBy_f49 ((ceX_H h_b) _) rfl dX2_mayLeaveBy_26 ?_
      refine V_iload_n C 1 dX2_mayLeaveBy_29 rfl ?_
      refine V_iald (t0 := 1) (L := 5) C (hs_mem h_b (by decide)) (hs_13 h_b) rfl g1 dX2_mayLeaveBy_30 ?_
      refine V_icmp_ne C 38 dX2_mayLeaveBy_31 (by decide) (fun q8 => ?_) (fun q8 => ?_)
      · have h := h.1 q8
        refine V_iconst (v := (0 : Int32)) C dX2_mayLeaveBy_38 (by decide) ?_
        exact V_zret C hr hlk (Or.inl rfl) dX2_mayLeaveBy_39 h
      · have h := h.2 q8
        refine V_iconst (v := (1 : Int32)) C dX2_mayLeaveBy_34 (by decide) ?_
        refine V_goto C 39 dX2_mayLeaveBy_35 (by decide) ?_
        exact V_zret C hr hlk (Or.inr rfl) dX2_mayLeaveBy_39 h
def w_X2_clerk (b : Nat) (x1 : Int32) (M : Mm) (post : Nat → Mm → Prop) : Prop :=
  (vp_in x1 5) ∧ ((vp_in (M.1 (b + 10) x1.toNatClampNeg) 5) ∧ (post (((b + 1) + 1) + (M.1 (b + 10) x1.toNatClampNeg).toNatClampNeg) M))
theorem iw_X2_clerk_X2 : ∀ w ∈ u_ws RX2 TX2 18, w ∈ wsX2_clerk := by decide +kernel
theorem m_X2_clerk_f24 : Cond.fieldLink RX2 24 "ShameYards$House" "clerks" "[LShameYards$Clerk;" ∈ wsX2_clerk := by decide +kernel
theorem m_X2_clerk_f40 : Cond.fieldLink RX2 40 "ShameYards$House" "kinds" "[I" ∈ wsX2_clerk := by decide +kernel
set_option maxHeartbeats 4000000 in
set_option maxRecDepth 100000 in
theorem c_X2_clerk (l : Launch) (D : va_G) (cy : Nat → ClassId) (ad : Nat → Nat) (A : Nat → Prop) (G : Gd A ad nsX) (b : Nat) (h_b : isH b) (x1 : Int32) (M : Mm) (post : Nat → Mm → Prop) (h : w_X2_clerk b x1 M post) : CR l yX2_clerk wsX2_clerk (rmL 2) D (tysC cy) A ad nsX (ceX ad cy) (ExX A ad) [.ref (ad b), .int x1] M post := by
  refine Met_V (cc := cX2_clerk) (maxL := 2) (ret := (some (.object "ShameYards$Clerk"))) (by decide) rfl G Lo_X ExX_ok (Nat.le_of_ble_eq_true rfl) rfl ?_
  intro p e s m args below meth c C hr hlk
  have C : Cx p s m args c cX2_clerk 2 RX2 wsX2_clerk D (tysC cy) A ad nsX (ceX ad cy) (ExX A ad) := C
  unfold w_X2_clerk at h
  refine V_aload_n C 0 dX2_clerk_0 rfl ?_
  refine V_get (k0 := 0) (Cn := RX2) (T := TX2) (N := 18) C (hs_mem0 h_b) rfl iw_X2_clerk_X2 (by decide) rfl m_X2_clerk_f24 ((ceX_H h_b) _) rfl dX2_clerk_1 ?_
  refine V_aload_n C 0 dX2_clerk_4 rfl ?_
  refine V_get (k0 := 7) (Cn := RX2) (T := TX2) (N := 18) C (hs_mem0 h_b) rfl iw_X2_clerk_X2 (by decide) rfl m_X2_clerk_f40 ((ceX_H h_b) _) rfl dX2_clerk_5 ?_
  refine V_iload_n C 1 dX2_clerk_8 rfl ?_
  have g1 := h.1
  have h := h.2
  refine V_iald (t0 := 1) (L := 5) C (hs_mem h_b (by decide)) (hs_10 h_b) rfl g1 dX2_clerk_9 ?_
  have g2 := h.1
  have h := h.2
  refine V_aald (t0 := 3) (L := 5) (r := (((b + 1) + 1) + (M.1 (b + 10) x1.toNatClampNeg).toNatClampNeg)) C (hs_mem h_b (by decide)) ((hs_1 h_b) _) rfl rfl g2 (row_at g2) dX2_clerk_10 ?_
  exact V_aret C hr hlk dX2_clerk_11 h
set_option maxHeartbeats 4000000 in
set_option maxRecDepth 100000 in
theorem V_yards_X2_aloneSteps {p : Program} {l : Launch} {e : Env} {s : State} {m : MethodId} {args : Array Value} {below : List Frame} {meth : Method} {c : Code} {Q : State → Prop} {D : va_G} {A : Nat → Prop} {ad : Nat → Nat} {cy : Nat → ClassId} {M : Mm} {lv : List (Nat × Value)} {pc : Nat} {rest : List Value} (C : Cx p s m args c cX2_aloneSteps 3 RX2 wsX2_aloneSteps D (tysC cy) A ad nsX (ceX ad cy) (ExX A ad)) (r : Nat) (x1 x2 x3 : Int32) {post : Int32 → Mm → Prop} (h : w_yards r x1 x2 x3 M post) (hW : (rest.map fun v => v.category).sum ≤ 8) (hd : decode cX2_aloneSteps pc = .ok (.invokevirtual 122, 3)) (k : ∀ (r1 : Int32) (M1 : Mm), post r1 M1 → V p l e (rmL 4) s m args below meth c Q D A ad nsX (ceX ad cy) 3 M1 lv (pc + 3) (.int r1 :: rest)) : V p l e (rmL 4) s m args below meth c Q D A ad nsX (ceX ad cy) 3 M lv pc (.int x3 :: .int x2 :: .int x1 :: .ref (ad r) :: rest) := by
  obtain ⟨hr, ⟨hk, h⟩ | ⟨hk, h⟩ | ⟨hk, h⟩ | ⟨hk, h⟩ | ⟨hk, h⟩⟩ := h
  · exact V_callVi (q := (RX1, TX1, 0)) (rest := rest) C (nsX_mem hr) (ceX_k1 hk _) rfl (c_X1_yards l D cy ad A C.2.2.1 r x1 x2 x3 M _ h) (cwV 3 C.1.2.2.2.2 gX2_aloneSteps_X1_yards rfl rfl rfl (by decide +kernel) ⟨by decide, by decide⟩) rfl rfl hW hd k
  · exact V_callO (q := (RX0, TX0, 0)) (rest := rest) C (nsX_mem hr) (ceX_k0 hk _) rfl (c_X0_yards l D cy ad A C.2.2.1 r hr hk x1 x2 x3 M _ h) (va_cwO 3 C.1.2.2.2.2 gX2_aloneSteps_X0_yards_u122X0 rfl rfl rfl (show Cond.code ⟨"ShameYards$Clerk", "yards", "(III)I"⟩ cX1_yards 4 (some .int) ∈ wsX2_aloneSteps by decide +kernel) (by decide +kernel) ⟨by decide, by decide⟩) rfl rfl hW hd k
  · exact V_callO (q := (RX4, TX4, 0)) (rest := rest) C (nsX_mem hr) (ceX_k4 hk _) rfl (c_X4_yards l D cy ad A C.2.2.1 r x1 x2 x3 M _ h) (va_cwO 3 C.1.2.2.2.2 gX2_aloneSteps_X4_yards_u122X4 rfl rfl rfl (show Cond.code ⟨"ShameYards$Clerk", "yards", "(III)I"⟩ cX1_yards 4 (some .int) ∈ wsX2_aloneSteps by decide +kernel) (by decide +kernel) ⟨by decide, by decide⟩) rfl rfl hW hd k
  · exact V_callO (q := (RX10, TX10, 0)) (rest := rest) C (nsX_mem hr) (ceX_k9 hk _) rfl (c_X10_yards l D cy ad A C.2.2.1 r hr hk x1 x2 x3 M _ h) (va_cwO 3 C.1.2.2.2.2 gX2_aloneSteps_X10_yards_u122X10 rfl rfl rfl (show Cond.code ⟨"ShameYards$Clerk", "yards", "(III)I"⟩ cX1_yards 4 (some .int) ∈ wsX2_aloneSteps by decide +kernel) (by decide +kernel) ⟨by decide, by decide⟩) rfl rfl hW hd k
  · exact V_callO (q := (RX3, TX3, 0)) (rest := rest) C (nsX_mem hr) (ceX_k3 hk _) rfl (c_X3_yards l D cy ad A C.2.2.1 r hr hk x1 x2 x3 M _ h) (va_cwO 3 C.1.2.2.2.2 gX2_aloneSteps_X3_yards_u122X3 rfl rfl rfl (show Cond.code ⟨"ShameYards$Clerk", "yards", "(III)I"⟩ cX1_yards 4 (some .int) ∈ wsX2_aloneSteps by decide +kernel) (by decide +kernel) ⟨by decide, by decide⟩) rfl rfl hW hd k
def w_X2_aloneSteps (b : Nat) (x1 : Int32) (x2 : Int32) (M : Mm) (post : Int32 → Mm → Prop) : Prop :=
  w_X2_clerk b x1 M (fun r1 M2 => (vp_in x2 7) ∧ ((vp_in x1 5) ∧ (w_yards r1 (M2.1 (b + 9) x2.toNatClampNeg) (M2.1 (b + 11) x1.toNatClampNeg) (M2.1 (b + 12) x1.toNatClampNeg) M2 (fun r6 M7 => post r6 M7))))
theorem iw_X2_aloneSteps_X2 : ∀ w ∈ u_ws RX2 TX2 18, w ∈ wsX2_aloneSteps := by decide +kernel
theorem m_X2_aloneSteps_f37 : Cond.fieldLink RX2 37 "ShameYards$House" "lengths" "[I" ∈ wsX2_aloneSteps := by decide +kernel
theorem m_X2_aloneSteps_f43 : Cond.fieldLink RX2 43 "ShameYards$House" "deeds" "[I" ∈ wsX2_aloneSteps := by decide +kernel
theorem m_X2_aloneSteps_f46 : Cond.fieldLink RX2 46 "ShameYards$House" "lies" "[I" ∈ wsX2_aloneSteps := by decide +kernel
set_option maxHeartbeats 4000000 in
set_option maxRecDepth 100000 in
theorem c_X2_aloneSteps (l : Launch) (D : va_G) (cy : Nat → ClassId) (ad : Nat → Nat) (A : Nat → Prop) (G : Gd A ad nsX) (b : Nat) (h_b : isH b) (x1 : Int32) (x2 : Int32) (M : Mm) (post : Int32 → Mm → Prop) (h : w_X2_aloneSteps b x1 x2 M post) : CI l yX2_aloneSteps wsX2_aloneSteps (rmL 4) D (tysC cy) A ad nsX (ceX ad cy) (ExX A ad) [.ref (ad b), .int x1, .int x2] M post := by
  refine Met_V (cc := cX2_aloneSteps) (maxL := 3) (ret := (some .int)) (by decide) rfl G Lo_X ExX_ok (Nat.le_of_ble_eq_true rfl) rfl ?_
  intro p e s m args below meth c C hr hlk
  have C : Cx p s m args c cX2_aloneSteps 3 RX2 wsX2_aloneSteps D (tysC cy) A ad nsX (ceX ad cy) (ExX A ad) := C
  unfold w_X2_aloneSteps at h
  refine V_aload_n C 0 dX2_aloneSteps_0 rfl ?_
  refine V_iload_n C 1 dX2_aloneSteps_1 rfl ?_
  refine V_callVr (q := (RX2, TX2, 18)) (rest := []) C (hs_mem0 h_b) ((ceX_H h_b) _) rfl (c_X2_clerk l D cy ad A G b h_b x1 M _ h) (cwV 1 C.1.2.2.2.2 gX2_aloneSteps_X2_clerk rfl rfl rfl (by decide +kernel) ⟨by decide, by decide⟩) rfl rfl (Nat.le_of_ble_eq_true rfl) dX2_aloneSteps_2 (fun r1 M2 h => ?_)
  refine V_aload_n C 0 dX2_aloneSteps_5 rfl ?_
  refine V_get (k0 := 6) (Cn := RX2) (T := TX2) (N := 18) C (hs_mem0 h_b) rfl iw_X2_aloneSteps_X2 (by decide) rfl m_X2_aloneSteps_f37 ((ceX_H h_b) _) rfl dX2_aloneSteps_6 ?_
  refine V_iload_n C 2 dX2_aloneSteps_9 rfl ?_
  have g4 := h.1
  have h := h.2
  refine V_iald (t0 := 1) (L := 7) C (hs_mem h_b (by decide)) (hs_9 h_b) rfl g4 dX2_aloneSteps_10 ?_
  refine V_aload_n C 0 dX2_aloneSteps_11 rfl ?_
  refine V_get (k0 := 8) (Cn := RX2) (T := TX2) (N := 18) C (hs_mem0 h_b) rfl iw_X2_aloneSteps_X2 (by decide) rfl m_X2_aloneSteps_f43 ((ceX_H h_b) _) rfl dX2_aloneSteps_12 ?_
  refine V_iload_n C 1 dX2_aloneSteps_15 rfl ?_
  have g5 := h.1
  have h := h.2
  refine V_iald (t0 := 1) (L := 5) C (hs_mem h_b (by decide)) (hs_11 h_b) rfl g5 dX2_aloneSteps_16 ?_
  refine V_aload_n C 0 dX2_aloneSteps_17 rfl ?_
  refine V_get (k0 := 9) (Cn := RX2) (T := TX2) (N := 18) C (hs_mem0 h_b) rfl iw_X2_aloneSteps_X2 (by decide) rfl m_X2_aloneSteps_f46 ((ceX_H h_b) _) rfl dX2_aloneSteps_18 ?_
  refine V_iload_n C 1 dX2_aloneSteps_21 rfl ?_
  refine V_iald (t0 := 1) (L := 5) C (hs_mem h_b (by decide)) (hs_12 h_b) rfl g5 dX2_aloneSteps_22 ?_
  refine V_yards_X2_aloneSteps (rest := []) C r1 (M2.1 (b + 9) x2.toNatClampNeg) (M2.1 (b + 11) x1.toNatClampNeg) (M2.1 (b + 12) x1.toNatClampNeg) h (Nat.le_of_ble_eq_true rfl) dX2_aloneSteps_23 (fun r6 M7 h => ?_)
  exact V_iret C hr hlk dX2_aloneSteps_26 h
set_option maxHeartbeats 4000000 in
set_option maxRecDepth 100000 in
theorem V_yards_X2_stepsWithLies {p : Program} {l : Launch} {e : Env} {s : State} {m : MethodId} {args : Array Value} {below : List Frame} {meth : Method} {c : Code} {Q : State → Prop} {D : va_G} {A : Nat → Prop} {ad : Nat → Nat} {cy : Nat → ClassId} {M : Mm} {lv : List (Nat × Value)} {pc : Nat} {rest : List Value} (C : Cx p s m args c cX2_stepsWithLies 7 RX2 wsX2_stepsWithLies D (tysC cy) A ad nsX (ceX ad cy) (ExX A ad)) (r : Nat) (x1 x2 x3 : Int32) {post : Int32 → Mm → Prop} (h : w_yards r x1 x2 x3 M post) (hW : (rest.map fun v => v.category).sum ≤ 8) (hd : decode cX2_stepsWithLies pc = .ok (.invokevirtual 122, 3)) (k : ∀ (r1 : Int32) (M1 : Mm), post r1 M1 → V p l e (rmL 4) s m args below meth c Q D A ad nsX (ceX ad cy) 7 M1 lv (pc + 3) (.int r1 :: rest)) : V p l e (rmL 4) s m args below meth c Q D A ad nsX (ceX ad cy) 7 M lv pc (.int x3 :: .int x2 :: .int x1 :: .ref (ad r) :: rest) := by
  obtain ⟨hr, ⟨hk, h⟩ | ⟨hk, h⟩ | ⟨hk, h⟩ | ⟨hk, h⟩ | ⟨hk, h⟩⟩ := h
  · exact V_callVi (q := (RX1, TX1, 0)) (rest := rest) C (nsX_mem hr) (ceX_k1 hk _) rfl (c_X1_yards l D cy ad A C.2.2.1 r x1 x2 x3 M _ h) (cwV 3 C.1.2.2.2.2 gX2_stepsWithLies_X1_yards rfl rfl rfl (by decide +kernel) ⟨by decide, by decide⟩) rfl rfl hW hd k
  · exact V_callO (q := (RX0, TX0, 0)) (rest := rest) C (nsX_mem hr) (ceX_k0 hk _) rfl (c_X0_yards l D cy ad A C.2.2.1 r hr hk x1 x2 x3 M _ h) (va_cwO 3 C.1.2.2.2.2 gX2_stepsWithLies_X0_yards_u122X0 rfl rfl rfl (show Cond.code ⟨"ShameYards$Clerk", "yards", "(III)I"⟩ cX1_yards 4 (some .int) ∈ wsX2_stepsWithLies by decide +kernel) (by decide +kernel) ⟨by decide, by decide⟩) rfl rfl hW hd k
  · exact V_callO (q := (RX4, TX4, 0)) (rest := rest) C (nsX_mem hr) (ceX_k4 hk _) rfl (c_X4_yards l D cy ad A C.2.2.1 r x1 x2 x3 M _ h) (va_cwO 3 C.1.2.2.2.2 gX2_stepsWithLies_X4_yards_u122X4 rfl rfl rfl (show Cond.code ⟨"ShameYards$Clerk", "yards", "(III)I"⟩ cX1_yards 4 (some .int) ∈ wsX2_stepsWithLies by decide +kernel) (by decide +kernel) ⟨by decide, by decide⟩) rfl rfl hW hd k
  · exact V_callO (q := (RX10, TX10, 0)) (rest := rest) C (nsX_mem hr) (ceX_k9 hk _) rfl (c_X10_yards l D cy ad A C.2.2.1 r hr hk x1 x2 x3 M _ h) (va_cwO 3 C.1.2.2.2.2 gX2_stepsWithLies_X10_yards_u122X10 rfl rfl rfl (show Cond.code ⟨"ShameYards$Clerk", "yards", "(III)I"⟩ cX1_yards 4 (some .int) ∈ wsX2_stepsWithLies by decide +kernel) (by decide +kernel) ⟨by decide, by decide⟩) rfl rfl hW hd k
  · exact V_callO (q := (RX3, TX3, 0)) (rest := rest) C (nsX_mem hr) (ceX_k3 hk _) rfl (c_X3_yards l D cy ad A C.2.2.1 r hr hk x1 x2 x3 M _ h) (va_cwO 3 C.1.2.2.2.2 gX2_stepsWithLies_X3_yards_u122X3 rfl rfl rfl (show Cond.code ⟨"ShameYards$Clerk", "yards", "(III)I"⟩ cX1_yards 4 (some .int) ∈ wsX2_stepsWithLies by decide +kernel) (by decide +kernel) ⟨by decide, by decide⟩) rfl rfl hW hd k
def w_X2_stepsWithLies (b : Nat) (x1 : Int32) (x2 : Int32) (x3 : Int32) (x4 : Int32) (M : Mm) (post : Int32 → Mm → Prop) : Prop :=
  (vp_in x2 7) ∧ (w_X2_clerk b x1 M (fun r2 M3 => (vp_in x1 5) ∧ (w_yards r2 (M.1 (b + 9) x2.toNatClampNeg) (M3.1 (b + 11) x1.toNatClampNeg) x4 M3 (fun r6 M7 => ((¬ x3 = (-1 : Int32)) → (w_X2_clerk b x3 M7 (fun r10 M11 => (vp_in x3 5) ∧ (w_yards r10 (M.1 (b + 9) x2.toNatClampNeg) (M11.1 (b + 11) x3.toNatClampNeg) (M11.1 (b + 12) x3.toNatClampNeg) M11 (fun r14 M15 => post (((r6 + r14) + (1 : Int32)) / (2 : Int32)) M15))))) ∧ ((x3 = (-1 : Int32)) → (post r6 M7))))))
theorem iw_X2_stepsWithLies_X2 : ∀ w ∈ u_ws RX2 TX2 18, w ∈ wsX2_stepsWithLies := by decide +kernel
theorem m_X2_stepsWithLies_f37 : Cond.fieldLink RX2 37 "ShameYards$House" "lengths" "[I" ∈ wsX2_stepsWithLies := by decide +kernel
theorem m_X2_stepsWithLies_f43 : Cond.fieldLink RX2 43 "ShameYards$House" "deeds" "[I" ∈ wsX2_stepsWithLies := by decide +kernel
theorem m_X2_stepsWithLies_f46 : Cond.fieldLink RX2 46 "ShameYards$House" "lies" "[I" ∈ wsX2_stepsWithLies := by decide +kernel
set_option maxHeartbeats 4000000 in
set_option maxRecDepth 100000 in
theorem c_X2_stepsWithLies (l : Launch) (D : va_G) (cy : Nat → ClassId) (ad : Nat → Nat) (A : Nat → Prop) (G : Gd A ad nsX) (b : Nat) (h_b : isH b) (x1 : Int32) (x2 : Int32) (x3 : Int32) (x4 : Int32) (M : Mm) (post : Int32 → Mm → Prop) (h : w_X2_stepsWithLies b x1 x2 x3 x4 M post) : CI l yX2_stepsWithLies wsX2_stepsWithLies (rmL 4) D (tysC cy) A ad nsX (ceX ad cy) (ExX A ad) [.ref (ad b), .int x1, .int x2, .int x3, .int x4] M post := by
  refine Met_V (cc := cX2_stepsWithLies) (maxL := 7) (ret := (some .int)) (by decide) rfl G Lo_X ExX_ok (Nat.le_of_ble_eq_true rfl) rfl ?_
  intro p e s m args below meth c C hr hlk
  have C : Cx p s m args c cX2_stepsWithLies 7 RX2 wsX2_stepsWithLies D (tysC cy) A ad nsX (ceX ad cy) (ExX A ad) := C
  unfold w_X2_stepsWithLies at h
  refine V_aload_n C 0 dX2_stepsWithLies_0 rfl ?_
  refine V_get (k0 := 6) (Cn := RX2) (T := TX2) (N := 18) C (hs_mem0 h_b) rfl iw_X2_stepsWithLies_X2 (by decide) rfl m_X2_stepsWithLies_f37 ((ceX_H h_b) _) rfl dX2_stepsWithLies_1 ?_
  refine V_iload_n C 2 dX2_stepsWithLies_4 rfl ?_
  have g1 := h.1
  have h := h.2
  refine V_iald (t0 := 1) (L := 7) C (hs_mem h_b (by decide)) (hs_9 h_b) rfl g1 dX2_stepsWithLies_5 ?_
  refine V_istore (lv' := [(5, .int (M.1 (b + 9) x2.toNatClampNeg)), (0, .ref (ad b)), (1, .int x1), (2, .int x2), (3, .int x3), (4, .int x4)]) C dX2_stepsWithLies_6 (by decide) rfl ?_
  refine V_aload_n C 1 dX2_stepsWithLies_8 rfl ?_
  refine V_iload_n C 2 dX2_stepsWithLies_9 rfl ?_
  refine V_callVr (q := (RX2, TX2, 18)) (rest := []) C (hs_mem0 h_b) ((ceX_H h_b) _) rfl (c_X2_clerk l D cy ad A G b h_b x1 M _ h) (cwV 1 C.1.2.2.2.2 gX2_stepsWithLies_X2_clerk rfl rfl rfl (by decide +kernel) ⟨by decide, by decide⟩) rfl rfl (Nat.le_of_ble_eq_true rfl) dX2_stepsWithLies_10 (fun r2 M3 h => ?_)
  refine V_iload C 0 dX2_stepsWithLies_13 rfl ?_
  refine V_aload_n C 1 dX2_stepsWithLies_15 rfl ?_
  refine V_get (k0 := 8) (Cn := RX2) (T := TX2) (N := 18) C (hs_mem0 h_b) rfl iw_X2_stepsWithLies_X2 (by decide) rfl m_X2_stepsWithLies_f43 ((ceX_H h_b) _) rfl dX2_stepsWithLies_16 ?_
  refine V_iload_n C 2 dX2_stepsWithLies_19 rfl ?_
  have g5 := h.1
  have h := h.2
  refine V_iald (t0 := 1) (L := 5) C (hs_mem h_b (by decide)) (hs_11 h_b) rfl g5 dX2_stepsWithLies_20 ?_
  refine V_iload C 5 dX2_stepsWithLies_21 rfl ?_
  refine V_yards_X2_stepsWithLies (rest := []) C r2 (M.1 (b + 9) x2.toNatClampNeg) (M3.1 (b + 11) x1.toNatClampNeg) x4 h (Nat.le_of_ble_eq_true rfl) dX2_stepsWithLies_23 (fun r6 M7 h => ?_)
  refine V_istore (lv' := [(6, .int r6), (5, .int (M.1 (b + 9) x2.toNatClampNeg)), (0, .ref (ad b)), (1, .int x1), (2, .int x2), (3, .int x3), (4, .int x4)]) C dX2_stepsWithLies_26 (by decide) rfl ?_
  refine V_iload_n C 5 dX2_stepsWithLies_28 rfl ?_
  refine V_iconst (v := (-1 : Int32)) C dX2_stepsWithLies_29 (by decide) ?_
  refine V_icmp_ne C 36 dX2_stepsWithLies_30 (by decide) (fun q9 => ?_) (fun q9 => ?_)
  · have h := h.1 q9
    refine V_iload C 0 dX2_stepsWithLies_36 rfl ?_
    refine V_aload_n C 2 dX2_stepsWithLies_38 rfl ?_
    refine V_iload_n C 5 dX2_stepsWithLies_39 rfl ?_
    refine V_callVr (q := (RX2, TX2, 18)) (rest := [.int r6]) C (hs_mem0 h_b) ((ceX_H h_b) _) rfl (c_X2_clerk l D cy ad A G b h_b x3 M7 _ h) (cwV 1 C.1.2.2.2.2 gX2_stepsWithLies_X2_clerk rfl rfl rfl (by decide +kernel) ⟨by decide, by decide⟩) rfl rfl (Nat.le_of_ble_eq_true rfl) dX2_stepsWithLies_40 (fun r10 M11 h => ?_)
    refine V_iload C 1 dX2_stepsWithLies_43 rfl ?_
    refine V_aload_n C 2 dX2_stepsWithLies_45 rfl ?_
    refine V_get (k0 := 8) (Cn := RX2) (T := TX2) (N := 18) C (hs_mem0 h_b) rfl iw_X2_stepsWithLies_X2 (by decide) rfl m_X2_stepsWithLies_f43 ((ceX_H h_b) _) rfl dX2_stepsWithLies_46 ?_
    refine V_iload_n C 5 dX2_stepsWithLies_49 rfl ?_
    have g13 := h.1
    have h := h.2
    refine V_iald (t0 := 1) (L := 5) C (hs_mem h_b (by decide)) (hs_11 h_b) rfl g13 dX2_stepsWithLies_50 ?_
    refine V_aload_n C 2 dX2_stepsWithLies_51 rfl ?_
    refine V_get (k0 := 9) (Cn := RX2) (T := TX2) (N := 18) C (hs_mem0 h_b) rfl iw_X2_stepsWithLies_X2 (by decide) rfl m_X2_stepsWithLies_f46 ((ceX_H h_b) _) rfl dX2_stepsWithLies_52 ?_
    refine V_iload_n C 5 dX2_stepsWithLies_55 rfl ?_
    refine V_iald (t0 := 1) (L := 5) C (hs_mem h_b (by decide)) (hs_12 h_b) rfl g13 dX2_stepsWithLies_56 ?_
    refine V_yards_X2_stepsWithLies (rest := [.int r6]) C r10 (M.1 (b + 9) x2.toNatClampNeg) (M11.1 (b + 11) x3.toNatClampNeg) (M11.1 (b + 12) x3.toNatClampNeg) h (Nat.le_of_ble_eq_true rfl) dX2_stepsWithLies_57 (fun r14 M15 h => ?_)
    refine V_iadd C dX2_stepsWithLies_60 ?_
    refine V_iconst (v := (1 : Int32)) C dX2_stepsWithLies_61 (by decide) ?_
    refine V_iadd C dX2_stepsWithLies_62 ?_
    refine V_iconst (v := (2 : Int32)) C dX2_stepsWithLies_63 (by decide) ?_
    refine V_idiv C dX2_stepsWithLies_64 (by decide) ?_
    exact V_iret C hr hlk dX2_stepsWithLies_65 h
  · have h := h.2 q9
    refine V_iload C 0 dX2_stepsWithLies_33 rfl ?_
    exact V_iret C hr hlk dX2_stepsWithLies_35 h
def w_X2_stepsOf (b : Nat) (x1 : Int32) (x2 : Int32) (x3 : Int32) (M : Mm) (post : Int32 → Mm → Prop) : Prop :=
  (vp_in x1 5) ∧ (w_X2_stepsWithLies b x1 x2 x3 (M.1 (b + 12) x1.toNatClampNeg) M (fun r2 M3 => post r2 M3))
theorem iw_X2_stepsOf_X2 : ∀ w ∈ u_ws RX2 TX2 18, w ∈ wsX2_stepsOf := by decide +kernel
theorem m_X2_stepsOf_f46 : Cond.fieldLink RX2 46 "ShameYards$House" "lies" "[I" ∈ wsX2_stepsOf := by decide +kernel
set_option maxHeartbeats 4000000 in
set_option maxRecDepth 100000 in
theorem c_X2_stepsOf (l : Launch) (D : va_G) (cy : Nat → ClassId) (ad : Nat → Nat) (A : Nat → Prop) (G : Gd A ad nsX) (b : Nat) (h_b : isH b) (x1 : Int32) (x2 : Int32) (x3 : Int32) (M : Mm) (post : Int32 → Mm → Prop) (h : w_X2_stepsOf b x1 x2 x3 M post) : CI l yX2_stepsOf wsX2_stepsOf (rmL 5) D (tysC cy) A ad nsX (ceX ad cy) (ExX A ad) [.ref (ad b), .int x1, .int x2, .int x3] M post := by
  refine Met_V (cc := cX2_stepsOf) (maxL := 4) (ret := (some .int)) (by decide) rfl G Lo_X ExX_ok (Nat.le_of_ble_eq_true rfl) rfl ?_
  intro p e s m args below meth c C hr hlk
  have C : Cx p s m args c cX2_stepsOf 4 RX2 wsX2_stepsOf D (tysC cy) A ad nsX (ceX ad cy) (ExX A ad) := C
  unfold w_X2_stepsOf at h
  refine V_aload_n C 0 dX2_stepsOf_0 rfl ?_
  refine V_iload_n C 1 dX2_stepsOf_1 rfl ?_
  refine V_iload_n C 2 dX2_stepsOf_2 rfl ?_
  refine V_iload_n C 3 dX2_stepsOf_3 rfl ?_
  refine V_aload_n C 0 dX2_stepsOf_4 rfl ?_
  refine V_get (k0 := 9) (Cn := RX2) (T := TX2) (N := 18) C (hs_mem0 h_b) rfl iw_X2_stepsOf_X2 (by decide) rfl m_X2_stepsOf_f46 ((ceX_H h_b) _) rfl dX2_stepsOf_5 ?_
  refine V_iload_n C 1 dX2_stepsOf_8 rfl ?_
  have g1 := h.1
  have h := h.2
  refine V_iald (t0 := 1) (L := 5) C (hs_mem h_b (by decide)) (hs_12 h_b) rfl g1 dX2_stepsOf_9 ?_
  refine V_callVi (q := (RX2, TX2, 18)) (rest := []) C (hs_mem0 h_b) ((ceX_H h_b) _) rfl (c_X2_stepsWithLies l D cy ad A G b h_b x1 x2 x3 (M.1 (b + 12) x1.toNatClampNeg) M _ h) (cwV 4 C.1.2.2.2.2 gX2_stepsOf_X2_stepsWithLies rfl rfl rfl (by decide +kernel) ⟨by decide, by decide⟩) rfl rfl (Nat.le_of_ble_eq_true rfl) dX2_stepsOf_10 (fun r2 M3 h => ?_)
  exact V_iret C hr hlk dX2_stepsOf_13 h
def w_X2_walk (b : Nat) (x1 : Int32) (x2 : Int32) (x3 : Int32) (M : Mm) (post : Int32 → Mm → Prop) : Prop :=
  (vp_in x1 5) ∧ (w_X2_stepsWithLies b x1 x2 x3 (M.1 (b + 12) x1.toNatClampNeg) M (fun r2 M3 => w_X2_across b x2 (M3.1 (b + 13) x1.toNatClampNeg) M3 (fun r5 M6 => ∀ M8 : Mm, M8 = wI M6 (b + 13) (upd (M6.1 (b + 13)) x1.toNatClampNeg r5) → (∀ M10 : Mm, M10 = wI M8 (b + 14) (upd (M8.1 (b + 14)) x1.toNatClampNeg ((M8.1 (b + 14) x1.toNatClampNeg) + r2)) → (((x3 = (-1 : Int32)) → (post r2 M10)) ∧ ((¬ x3 = (-1 : Int32)) → ((vp_in x3 5) ∧ (∀ M14 : Mm, M14 = wI M10 (b + 13) (upd (M10.1 (b + 13)) x3.toNatClampNeg r5) → (∀ M16 : Mm, M16 = wI M14 (b + 14) (upd (M14.1 (b + 14)) x3.toNatClampNeg ((M14.1 (b + 14) x3.toNatClampNeg) + r2)) → (∀ M18 : Mm, M18 = wI M16 b (upd (M16.1 b) 12 ((M16.1 b 12) + (1 : Int32))) → (post r2 M18)))))))))))
theorem iw_X2_walk_X2 : ∀ w ∈ u_ws RX2 TX2 18, w ∈ wsX2_walk := by decide +kernel
theorem m_X2_walk_f46 : Cond.fieldLink RX2 46 "ShameYards$House" "lies" "[I" ∈ wsX2_walk := by decide +kernel
theorem m_X2_walk_f49 : Cond.fieldLink RX2 49 "ShameYards$House" "places" "[I" ∈ wsX2_walk := by decide +kernel
theorem m_X2_walk_f52 : Cond.fieldLink RX2 52 "ShameYards$House" "taken" "[I" ∈ wsX2_walk := by decide +kernel
theorem m_X2_walk_f99 : Cond.fieldLink RX2 99 "ShameYards$House" "walksTogether" "I" ∈ wsX2_walk := by decide +kernel
set_option maxHeartbeats 4000000 in
set_option maxRecDepth 100000 in
theorem c_X2_walk (l : Launch) (D : va_G) (cy : Nat → ClassId) (ad : Nat → Nat) (A : Nat → Prop) (G : Gd A ad nsX) (b : Nat) (h_b : isH b) (x1 : Int32) (x2 : Int32) (x3 : Int32) (M : Mm) (post : Int32 → Mm → Prop) (h : w_X2_walk b x1 x2 x3 M post) : CI l yX2_walk wsX2_walk (rmL 5) D (tysC cy) A ad nsX (ceX ad cy) (ExX A ad) [.ref (ad b), .int x1, .int x2, .int x3] M post := by
  refine Met_V (cc := cX2_walk) (maxL := 6) (ret := (some .int)) (by decide) rfl G Lo_X ExX_ok (Nat.le_of_ble_eq_true rfl) rfl ?_
  intro p e s m args below meth c C hr hlk
  have C : Cx p s m args c cX2_walk 6 RX2 wsX2_walk D (tysC cy) A ad nsX (ceX ad cy) (ExX A ad) := C
  unfold w_X2_walk at h
  refine V_aload_n C 0 dX2_walk_0 rfl ?_
  refine V_iload_n C 1 dX2_walk_1 rfl ?_
  refine V_iload_n C 2 dX2_walk_2 rfl ?_
  refine V_iload_n C 3 dX2_walk_3 rfl ?_
  refine V_aload_n C 0 dX2_walk_4 rfl ?_
  refine V_get (k0 := 9) (Cn := RX2) (T := TX2) (N := 18) C (hs_mem0 h_b) rfl iw_X2_walk_X2 (by decide) rfl m_X2_walk_f46 ((ceX_H h_b) _) rfl dX2_walk_5 ?_
  refine V_iload_n C 1 dX2_walk_8 rfl ?_
  have g1 := h.1
  have h := h.2
  refine V_iald (t0 := 1) (L := 5) C (hs_mem h_b (by decide)) (hs_12 h_b) rfl g1 dX2_walk_9 ?_
  refine V_callVi (q := (RX2, TX2, 18)) (rest := []) C (hs_mem0 h_b) ((ceX_H h_b) _) rfl (c_X2_stepsWithLies l D cy ad A G b h_b x1 x2 x3 (M.1 (b + 12) x1.toNatClampNeg) M _ h) (cwV 4 C.1.2.2.2.2 gX2_walk_X2_stepsWithLies rfl rfl rfl (by decide +kernel) ⟨by decide, by decide⟩) rfl rfl (Nat.le_of_ble_eq_true rfl) dX2_walk_10 (fun r2 M3 h => ?_)
  refine V_istore (lv' := [(4, .int r2), (0, .ref (ad b)), (1, .int x1), (2, .int x2), (3, .int x3)]) C dX2_walk_13 (by decide) rfl ?_
  refine V_aload_n C 1 dX2_walk_15 rfl ?_
  refine V_iload_n C 3 dX2_walk_16 rfl ?_
  refine V_aload_n C 1 dX2_walk_17 rfl ?_
  refine V_get (k0 := 10) (Cn := RX2) (T := TX2) (N := 18) C (hs_mem0 h_b) rfl iw_X2_walk_X2 (by decide) rfl m_X2_walk_f49 ((ceX_H h_b) _) rfl dX2_walk_18 ?_
  refine V_iload_n C 2 dX2_walk_21 rfl ?_
  refine V_iald (t0 := 1) (L := 5) C (hs_mem h_b (by decide)) (hs_13 h_b) rfl g1 dX2_walk_22 ?_
  refine V_callVi (q := (RX2, TX2, 18)) (rest := []) C (hs_mem0 h_b) ((ceX_H h_b) _) rfl (c_X2_across l D cy ad A G b h_b x2 (M3.1 (b + 13) x1.toNatClampNeg) M3 _ h) (cwV 2 C.1.2.2.2.2 gX2_walk_X2_across rfl rfl rfl (by decide +kernel) ⟨by decide, by decide⟩) rfl rfl (Nat.le_of_ble_eq_true rfl) dX2_walk_23 (fun r5 M6 h => ?_)
  refine V_istore (lv' := [(5, .int r5), (4, .int r2), (0, .ref (ad b)), (1, .int x1), (2, .int x2), (3, .int x3)]) C dX2_walk_26 (by decide) rfl ?_
  refine V_aload_n C 2 dX2_walk_28 rfl ?_
  refine V_get (k0 := 10) (Cn := RX2) (T := TX2) (N := 18) C (hs_mem0 h_b) rfl iw_X2_walk_X2 (by decide) rfl m_X2_walk_f49 ((ceX_H h_b) _) rfl dX2_walk_29 ?_
  refine V_iload_n C 3 dX2_walk_32 rfl ?_
  refine V_iload C 0 dX2_walk_33 rfl ?_
  refine V_iast (t0 := 1) (L := 5) C (hs_mem h_b (by decide)) (hs_13 h_b) rfl g1 dX2_walk_35 (fun M8 e9 => ?_)
  have h := h M8 e9
  refine V_aload_n C 2 dX2_walk_36 rfl ?_
  refine V_get (k0 := 11) (Cn := RX2) (T := TX2) (N := 18) C (hs_mem0 h_b) rfl iw_X2_walk_X2 (by decide) rfl m_X2_walk_f52 ((ceX_H h_b) _) rfl dX2_walk_37 ?_
  refine V_iload_n C 3 dX2_walk_40 rfl ?_
  refine V_dup2 C dX2_walk_41 rfl rfl ?_
  refine V_iald (t0 := 1) (L := 5) C (hs_mem h_b (by decide)) (hs_14 h_b) rfl g1 dX2_walk_42 ?_
  refine V_iload C 1 dX2_walk_43 rfl ?_
  refine V_iadd C dX2_walk_45 ?_
  refine V_iast (t0 := 1) (L := 5) C (hs_mem h_b (by decide)) (hs_14 h_b) rfl g1 dX2_walk_46 (fun M10 e11 => ?_)
  have h := h M10 e11
  refine V_iload_n C 5 dX2_walk_47 rfl ?_
  refine V_iconst (v := (-1 : Int32)) C dX2_walk_48 (by decide) ?_
  refine V_icmp_eq C 81 dX2_walk_49 (by decide) (fun q12 => ?_) (fun q12 => ?_)
  · have h := h.1 q12
    refine V_iload C 1 dX2_walk_81 rfl ?_
    exact V_iret C hr hlk dX2_walk_83 h
  · have h := h.2 q12
    refine V_aload_n C 2 dX2_walk_52 rfl ?_
    refine V_get (k0 := 10) (Cn := RX2) (T := TX2) (N := 18) C (hs_mem0 h_b) rfl iw_X2_walk_X2 (by decide) rfl m_X2_walk_f49 ((ceX_H h_b) _) rfl dX2_walk_53 ?_
    refine V_iload_n C 5 dX2_walk_56 rfl ?_
    refine V_iload C 0 dX2_walk_57 rfl ?_
    have g13 := h.1
    have h := h.2
    refine V_iast (t0 := 1) (L := 5) C (hs_mem h_b (by decide)) (hs_13 h_b) rfl g13 dX2_walk_59 (fun M14 e15 => ?_)
    have h := h M14 e15
    refine V_aload_n C 2 dX2_walk_60 rfl ?_
    refine V_get (k0 := 11) (Cn := RX2) (T := TX2) (N := 18) C (hs_mem0 h_b) rfl iw_X2_walk_X2 (by decide) rfl m_X2_walk_f52 ((ceX_H h_b) _) rfl dX2_walk_61 ?_
    refine V_iload_n C 5 dX2_walk_64 rfl ?_
    refine V_dup2 C dX2_walk_65 rfl rfl ?_
    refine V_iald (t0 := 1) (L := 5) C (hs_mem h_b (by decide)) (hs_14 h_b) rfl g13 dX2_walk_66 ?_
    refine V_iload C 1 dX2_walk_67 rfl ?_
    refine V_iadd C dX2_walk_69 ?_
    refine V_iast (t0 := 1) (L := 5) C (hs_mem h_b (by decide)) (hs_14 h_b) rfl g13 dX2_walk_70 (fun M16 e17 => ?_)
    have h := h M16 e17
    refine V_aload_n C 2 dX2_walk_71 rfl ?_
    refine V_dup C dX2_walk_72 rfl ?_
    refine V_get (k0 := 12) (Cn := RX2) (T := TX2) (N := 18) C (hs_mem0 h_b) rfl iw_X2_walk_X2 (by decide) rfl m_X2_walk_f99 ((ceX_H h_b) _) rfl dX2_walk_73 ?_
    refine V_iconst (v := (1 : Int32)) C dX2_walk_76 (by decide) ?_
    refine V_iadd C dX2_walk_77 ?_
    refine V_putI (k0 := 12) (Cn := RX2) (T := TX2) (N := 18) C (hs_mem0 h_b) rfl iw_X2_walk_X2 (by decide) rfl m_X2_walk_f99 tyX2_ok nmX2 rfl (show _ = some FieldType.int by decide +kernel) rfl rfl (Nat.le_of_ble_eq_true rfl) ((ceX_H h_b) _) (stXH_12 h_b _ _) dX2_walk_78 (fun M18 e19 => ?_)
    have h := h M18 e19
    refine V_iload C 1 dX2_walk_81 rfl ?_
    exact V_iret C hr hlk dX2_walk_83 h
def w_X2_note (b : Nat) (x1 : Int32) (x2 : Int32) (x3 : Int32) (x4 : Int32) (M : Mm) (post : Mm → Prop) : Prop :=
  (((6 : Int32) ≤ (M.1 b 13)) → (post M)) ∧ ((¬ (6 : Int32) ≤ (M.1 b 13)) → ((vp_in (M.1 b 13) 6) ∧ (∀ M3 : Mm, M3 = wI M (b + 15) (upd (M.1 (b + 15)) (M.1 b 13).toNatClampNeg x1) → ((vp_in (M3.1 b 13) 6) ∧ (∀ M6 : Mm, M6 = wI M3 (b + 16) (upd (M3.1 (b + 16)) (M3.1 b 13).toNatClampNeg x2) → ((vp_in (M6.1 b 13) 6) ∧ (∀ M9 : Mm, M9 = wI M6 (b + 17) (upd (M6.1 (b + 17)) (M6.1 b 13).toNatClampNeg x3) → ((vp_in (M9.1 b 13) 6) ∧ (∀ M12 : Mm, M12 = wI M9 (b + 18) (upd (M9.1 (b + 18)) (M9.1 b 13).toNatClampNeg x4) → (∀ M14 : Mm, M14 = wI M12 b (upd (M12.1 b) 13 ((M12.1 b 13) + (1 : Int32))) → (post M14)))))))))))
theorem iw_X2_note_X2 : ∀ w ∈ u_ws RX2 TX2 18, w ∈ wsX2_note := by decide +kernel
theorem m_X2_note_f102 : Cond.fieldLink RX2 102 "ShameYards$House" "seenCount" "I" ∈ wsX2_note := by decide +kernel
theorem m_X2_note_f55 : Cond.fieldLink RX2 55 "ShameYards$House" "seenPerson" "[I" ∈ wsX2_note := by decide +kernel
theorem m_X2_note_f58 : Cond.fieldLink RX2 58 "ShameYards$House" "seenPassage" "[I" ∈ wsX2_note := by decide +kernel
theorem m_X2_note_f61 : Cond.fieldLink RX2 61 "ShameYards$House" "seenWith" "[I" ∈ wsX2_note := by decide +kernel
theorem m_X2_note_f64 : Cond.fieldLink RX2 64 "ShameYards$House" "seenSteps" "[I" ∈ wsX2_note := by decide +kernel
set_option maxHeartbeats 4000000 in
set_option maxRecDepth 100000 in
theorem c_X2_note (l : Launch) (D : va_G) (cy : Nat → ClassId) (ad : Nat → Nat) (A : Nat → Prop) (G : Gd A ad nsX) (b : Nat) (h_b : isH b) (x1 : Int32) (x2 : Int32) (x3 : Int32) (x4 : Int32) (M : Mm) (post : Mm → Prop) (h : w_X2_note b x1 x2 x3 x4 M post) : CV l yX2_note wsX2_note (rmL 2) D (tysC cy) A ad nsX (ceX ad cy) (ExX A ad) [.ref (ad b), .int x1, .int x2, .int x3, .int x4] M post := by
  refine Met_V (cc := cX2_note) (maxL := 5) (ret := none) (by decide) rfl G Lo_X ExX_ok (Nat.le_of_ble_eq_true rfl) rfl ?_
  intro p e s m args below meth c C hr hlk
  have C : Cx p s m args c cX2_note 5 RX2 wsX2_note D (tysC cy) A ad nsX (ceX ad cy) (ExX A ad) := C
  unfold w_X2_note at h
  refine V_aload_n C 0 dX2_note_0 rfl ?_
  refine V_get (k0 := 13) (Cn := RX2) (T := TX2) (N := 18) C (hs_mem0 h_b) rfl iw_X2_note_X2 (by decide) rfl m_X2_note_f102 ((ceX_H h_b) _) rfl dX2_note_1 ?_
  refine V_bipush (v := (6 : Int32)) C dX2_note_4 (by decide) ?_
  refine V_icmp_ge C 60 dX2_note_6 (by decide) (fun q1 => ?_) (fun q1 => ?_)
  · have h := h.1 q1
    exact V_vret C hr hlk dX2_note_60 h
  · have h := h.2 q1
    refine V_aload_n C 0 dX2_note_9 rfl ?_
    refine V_get (k0 := 14) (Cn := RX2) (T := TX2) (N := 18) C (hs_mem0 h_b) rfl iw_X2_note_X2 (by decide) rfl m_X2_note_f55 ((ceX_H h_b) _) rfl dX2_note_10 ?_
    refine V_aload_n C 0 dX2_note_13 rfl ?_
    refine V_get (k0 := 13) (Cn := RX2) (T := TX2) (N := 18) C (hs_mem0 h_b) rfl iw_X2_note_X2 (by decide) rfl m_X2_note_f102 ((ceX_H h_b) _) rfl dX2_note_14 ?_
    refine V_iload_n C 1 dX2_note_17 rfl ?_
    have g2 := h.1
    have h := h.2
    refine V_iast (t0 := 1) (L := 6) C (hs_mem h_b (by decide)) (hs_15 h_b) rfl g2 dX2_note_18 (fun M3 e4 => ?_)
    have h := h M3 e4
    refine V_aload_n C 0 dX2_note_19 rfl ?_
    refine V_get (k0 := 15) (Cn := RX2) (T := TX2) (N := 18) C (hs_mem0 h_b) rfl iw_X2_note_X2 (by decide) rfl m_X2_note_f58 ((ceX_H h_b) _) rfl dX2_note_20 ?_
    refine V_aload_n C 0 dX2_note_23 rfl ?_
    refine V_get (k0 := 13) (Cn := RX2) (T := TX2) (N := 18) C (hs_mem0 h_b) rfl iw_X2_note_X2 (by decide) rfl m_X2_note_f102 ((ceX_H h_b) _) rfl dX2_note_24 ?_
    refine V_iload_n C 2 dX2_note_27 rfl ?_
    have g5 := h.1
    have h := h.2
    refine V_iast (t0 := 1) (L := 6) C (hs_mem h_b (by decide)) (hs_16 h_b) rfl g5 dX2_note_28 (fun M6 e7 => ?_)
    have h := h M6 e7
    refine V_aload_n C 0 dX2_note_29 rfl ?_
    refine V_get (k0 := 16) (Cn := RX2) (T := TX2) (N := 18) C (hs_mem0 h_b) rfl iw_X2_note_X2 (by decide) rfl m_X2_note_f61 ((ceX_H h_b) _) rfl dX2_note_30 ?_
    refine V_aload_n C 0 dX2_note_33 rfl ?_
    refine V_get (k0 := 13) (Cn := RX2) (T := TX2) (N := 18) C (hs_mem0 h_b) rfl iw_X2_note_X2 (by decide) rfl m_X2_note_f102 ((ceX_H h_b) _) rfl dX2_note_34 ?_
    refine V_iload_n C 3 dX2_note_37 rfl ?_
    have g8 := h.1
    have h := h.2
    refine V_iast (t0 := 1) (L := 6) C (hs_mem h_b (by decide)) (hs_17 h_b) rfl g8 dX2_note_38 (fun M9 e10 => ?_)
    have h := h M9 e10
    refine V_aload_n C 0 dX2_note_39 rfl ?_
    refine V_get (k0 := 17) (Cn := RX2) (T := TX2) (N := 18) C (hs_mem0 h_b) rfl iw_X2_note_X2 (by decide) rfl m_X2_note_f64 ((ceX_H h_b) _) rfl dX2_note_40 ?_
    refine V_aload_n C 0 dX2_note_43 rfl ?_
    refine V_get (k0 := 13) (Cn := RX2) (T := TX2) (N := 18) C (hs_mem0 h_b) rfl iw_X2_note_X2 (by decide) rfl m_X2_note_f102 ((ceX_H h_b) _) rfl dX2_note_44 ?_
    refine V_iload C 4 dX2_note_47 rfl ?_
    have g11 := h.1
    have h := h.2
    refine V_iast (t0 := 1) (L := 6) C (hs_mem h_b (by decide)) (hs_18 h_b) rfl g11 dX2_note_49 (fun M12 e13 => ?_)
    have h := h M12 e13
    refine V_aload_n C 0 dX2_note_50 rfl ?_
    refine V_dup C dX2_note_51 rfl ?_
    refine V_get (k0 := 13) (Cn := RX2) (T := TX2) (N := 18) C (hs_mem0 h_b) rfl iw_X2_note_X2 (by decide) rfl m_X2_note_f102 ((ceX_H h_b) _) rfl dX2_note_52 ?_
    refine V_iconst (v := (1 : Int32)) C dX2_note_55 (by decide) ?_
    refine V_iadd C dX2_note_56 ?_
    refine V_putI (k0 := 13) (Cn := RX2) (T := TX2) (N := 18) C (hs_mem0 h_b) rfl iw_X2_note_X2 (by decide) rfl m_X2_note_f102 tyX2_ok nmX2 rfl (show _ = some FieldType.int by decide +kernel) rfl rfl (Nat.le_of_ble_eq_true rfl) ((ceX_H h_b) _) (stXH_13 h_b _ _) dX2_note_57 (fun M14 e15 => ?_)
    have h := h M14 e15
    exact V_vret C hr hlk dX2_note_60 h
def w_X2_sumOfPeople_4 (b : Nat) (rw : Nat) (post : Int32 → Mm → Prop)  : Nat → Int32 → Int32 → Mm → Prop
  | 0 => fun _ _ _ => False
  | n + 1 => fun v2 v3 M =>
    (((M.1 b 3) ≤ v3) → (post v2 M)) ∧ ((¬ (M.1 b 3) ≤ v3) → ((vp_in v3 5) ∧ (w_X2_sumOfPeople_4 b rw post  n (v2 + (M.1 rw v3.toNatClampNeg)) (v3 + 1) M)))
def w_X2_sumOfPeople (b : Nat) (rw : Nat)  (M : Mm) (post : Int32 → Mm → Prop) : Prop :=
  ∃ n0 : Nat, w_X2_sumOfPeople_4 b rw post  n0 (0 : Int32) (0 : Int32) M
theorem iw_X2_sumOfPeople_X2 : ∀ w ∈ u_ws RX2 TX2 18, w ∈ wsX2_sumOfPeople := by decide +kernel
theorem m_X2_sumOfPeople_f93 : Cond.fieldLink RX2 93 "ShameYards$House" "peopleCount" "I" ∈ wsX2_sumOfPeople := by decide +kernel
set_option maxHeartbeats 4000000 in
set_option maxRecDepth 100000 in
theorem c_X2_sumOfPeople (l : Launch) (D : va_G) (cy : Nat → ClassId) (ad : Nat → Nat) (A : Nat → Prop) (G : Gd A ad nsX) (b : Nat) (rw : Nat) (h_b : isH b) (m_rw : rw ∈ nsX) (c_rw : ∀ M0 : Mm, ceX ad cy M0 rw = .inl (cy 1, 5, .inl (M0.1 rw)))  (M : Mm) (post : Int32 → Mm → Prop) (h : w_X2_sumOfPeople b rw M post) : CI l yX2_sumOfPeople wsX2_sumOfPeople (rmL 2) D (tysC cy) A ad nsX (ceX ad cy) (ExX A ad) [.ref (ad b), .ref (ad rw)] M post := by
  refine Met_V (cc := cX2_sumOfPeople) (maxL := 4) (ret := (some .int)) (by decide) rfl G Lo_X ExX_ok (Nat.le_of_ble_eq_true rfl) rfl ?_
  intro p e s m args below meth c C hr hlk
  have C : Cx p s m args c cX2_sumOfPeople 4 RX2 wsX2_sumOfPeople D (tysC cy) A ad nsX (ceX ad cy) (ExX A ad) := C
  have L4 : ∀  (n : Nat) (v2 : Int32) (v3 : Int32) (M : Mm), w_X2_sumOfPeople_4 b rw post  n v2 v3 M → V p l e (rmL 2) s m args below meth c (MQ below (va_Qi post (Wd D (tysC cy) ad nsX (ceX ad cy) (ExX A ad)) A) args s 0 0 A) D A ad nsX (ceX ad cy) 4 M [(0, .ref (ad b)), (1, .ref (ad rw)), (2, .int v2), (3, .int v3)] 4 [] := by
    intro  n
    induction n with
    | zero => intro v2 v3 M h; exact h.elim
    | succ n ih =>
    intro v2 v3 M h 
    unfold w_X2_sumOfPeople_4 at h
    refine V_iload_n C 3 dX2_sumOfPeople_4 rfl ?_
    refine V_aload_n C 0 dX2_sumOfPeople_5 rfl ?_
    refine V_get (k0 := 3) (Cn := RX2) (T := TX2) (N := 18) C (hs_mem0 h_b) rfl iw_X2_sumOfPeople_X2 (by decide) rfl m_X2_sumOfPeople_f93 ((ceX_H h_b) _) rfl dX2_sumOfPeople_6 ?_
    refine V_icmp_ge C 24 dX2_sumOfPeople_9 (by decide) (fun q1 => ?_) (fun q1 => ?_)
    · have h := h.1 q1
      refine V_iload_n C 2 dX2_sumOfPeople_24 rfl ?_
      exact V_iret C hr hlk dX2_sumOfPeople_25 h
    · have h := h.2 q1
      refine V_iload_n C 2 dX2_sumOfPeople_12 rfl ?_
      refine V_aload_n C 1 dX2_sumOfPeople_13 rfl ?_
      refine V_iload_n C 3 dX2_sumOfPeople_14 rfl ?_
      have g2 := h.1
      have h := h.2
      refine V_iald (t0 := 1) (L := 5) C m_rw c_rw rfl g2 dX2_sumOfPeople_15 ?_
      refine V_iadd C dX2_sumOfPeople_16 ?_
      refine V_istore_n (lv' := [(2, .int (v2 + (M.1 rw v3.toNatClampNeg))), (0, .ref (ad b)), (1, .ref (ad rw)), (3, .int v3)]) C dX2_sumOfPeople_17 rfl (by decide) rfl ?_
      refine V_iinc (v := (v3 + 1)) (lv' := [(3, .int (v3 + 1)), (2, .int (v2 + (M.1 rw v3.toNatClampNeg))), (0, .ref (ad b)), (1, .ref (ad rw))]) C 3 dX2_sumOfPeople_18 rfl rfl (by decide) rfl ?_
      refine V_goto C 4 dX2_sumOfPeople_21 (by decide) ?_
      refine V_drop (lv' := [(0, .ref (ad b)), (1, .ref (ad rw)), (2, .int (v2 + (M.1 rw v3.toNatClampNeg))), (3, .int (v3 + 1))]) [2, 3, 1, 0] rfl ?_
      exact ih (v2 + (M.1 rw v3.toNatClampNeg)) (v3 + 1) M h 
  unfold w_X2_sumOfPeople at h
  refine V_iconst (v := (0 : Int32)) C dX2_sumOfPeople_0 (by decide) ?_
  refine V_istore_n (lv' := [(2, .int (0 : Int32)), (0, .ref (ad b)), (1, .ref (ad rw))]) C dX2_sumOfPeople_1 rfl (by decide) rfl ?_
  refine V_iconst (v := (0 : Int32)) C dX2_sumOfPeople_2 (by decide) ?_
  refine V_istore_n (lv' := [(3, .int (0 : Int32)), (2, .int (0 : Int32)), (0, .ref (ad b)), (1, .ref (ad rw))]) C dX2_sumOfPeople_3 rfl (by decide) rfl ?_
  refine V_drop (lv' := [(0, .ref (ad b)), (1, .ref (ad rw)), (2, .int (0 : Int32)), (3, .int (0 : Int32))]) [2, 3, 1, 0] rfl ?_
  obtain ⟨n0, h⟩ := h
  exact L4  n0 (0 : Int32) (0 : Int32) M h 
def w_X2_peopleInRoomZero_4 (b : Nat) (post : Int32 → Mm → Prop)  : Nat → Int32 → Int32 → Mm → Prop
  | 0 => fun _ _ _ => False
  | n + 1 => fun v1 v2 M =>
    (((M.1 b 3) ≤ v2) → (post v1 M)) ∧ ((¬ (M.1 b 3) ≤ v2) → ((vp_in v2 5) ∧ (((¬ (M.1 (b + 13) v2.toNatClampNeg) = 0) → (w_X2_peopleInRoomZero_4 b post  n v1 (v2 + 1) M)) ∧ (((M.1 (b + 13) v2.toNatClampNeg) = 0) → (w_X2_peopleInRoomZero_4 b post  n (v1 + 1) (v2 + 1) M)))))
def w_X2_peopleInRoomZero (b : Nat)  (M : Mm) (post : Int32 → Mm → Prop) : Prop :=
  ∃ n0 : Nat, w_X2_peopleInRoomZero_4 b post  n0 (0 : Int32) (0 : Int32) M
theorem iw_X2_peopleInRoomZero_X2 : ∀ w ∈ u_ws RX2 TX2 18, w ∈ wsX2_peopleInRoomZero := by decide +kernel
theorem m_X2_peopleInRoomZero_f93 : Cond.fieldLink RX2 93 "ShameYards$House" "peopleCount" "I" ∈ wsX2_peopleInRoomZero := by decide +kernel
theorem m_X2_peopleInRoomZero_f49 : Cond.fieldLink RX2 49 "ShameYards$House" "places" "[I" ∈ wsX2_peopleInRoomZero := by decide +kernel
set_option maxHeartbeats 4000000 in
set_option maxRecDepth 100000 in
theorem c_X2_peopleInRoomZero (l : Launch) (D : va_G) (cy : Nat → ClassId) (ad : Nat → Nat) (A : Nat → Prop) (G : Gd A ad nsX) (b : Nat) (h_b : isH b)  (M : Mm) (post : Int32 → Mm → Prop) (h : w_X2_peopleInRoomZero b M post) : CI l yX2_peopleInRoomZero wsX2_peopleInRoomZero (rmL 2) D (tysC cy) A ad nsX (ceX ad cy) (ExX A ad) [.ref (ad b)] M post := by
  refine Met_V (cc := cX2_peopleInRoomZero) (maxL := 3) (ret := (some .int)) (by decide) rfl G Lo_X ExX_ok (Nat.le_of_ble_eq_true rfl) rfl ?_
  intro p e s m args below meth c C hr hlk
  have C : Cx p s m args c cX2_peopleInRoomZero 3 RX2 wsX2_peopleInRoomZero D (tysC cy) A ad nsX (ceX ad cy) (ExX A ad) := C
  have L4 : ∀  (n : Nat) (v1 : Int32) (v2 : Int32) (M : Mm), w_X2_peopleInRoomZero_4 b post  n v1 v2 M → V p l e (rmL 2) s m args below meth c (MQ below (va_Qi post (Wd D (tysC cy) ad nsX (ceX ad cy) (ExX A ad)) A) args s 0 0 A) D A ad nsX (ceX ad cy) 3 M [(0, .ref (ad b)), (1, .int v1), (2, .int v2)] 4 [] := by
    intro  n
    induction n with
    | zero => intro v1 v2 M h; exact h.elim
    | succ n ih =>
    intro v1 v2 M h 
    unfold w_X2_peopleInRoomZero_4 at h
    refine V_iload_n C 2 dX2_peopleInRoomZero_4 rfl ?_
    refine V_aload_n C 0 dX2_peopleInRoomZero_5 rfl ?_
    refine V_get (k0 := 3) (Cn := RX2) (T := TX2) (N := 18) C (hs_mem0 h_b) rfl iw_X2_peopleInRoomZero_X2 (by decide) rfl m_X2_peopleInRoomZero_f93 ((ceX_H h_b) _) rfl dX2_peopleInRoomZero_6 ?_
    refine V_icmp_ge C 30 dX2_peopleInRoomZero_9 (by decide) (fun q1 => ?_) (fun q1 => ?_)
    · have h := h.1 q1
      refine V_iload_n C 1 dX2_peopleInRoomZero_30 rfl ?_
      exact V_iret C hr hlk dX2_peopleInRoomZero_31 h
    · have h := h.2 q1
      refine V_aload_n C 0 dX2_peopleInRoomZero_12 rfl ?_
      refine V_get (k0 := 10) (Cn := RX2) (T := TX2) (N := 18) C (hs_mem0 h_b) rfl iw_X2_peopleInRoomZero_X2 (by decide) rfl m_X2_peopleInRoomZero_f49 ((ceX_H h_b) _) rfl dX2_peopleInRoomZero_13 ?_
      refine V_iload_n C 2 dX2_peopleInRoomZero_16 rfl ?_
      have g2 := h.1
      have h := h.2
      refine V_iald (t0 := 1) (L := 5) C (hs_mem h_b (by decide)) (hs_13 h_b) rfl g2 dX2_peopleInRoomZero_17 ?_
      refine V_if_ne C 24 dX2_peopleInRoomZero_18 (by decide) (fun q3 => ?_) (fun q3 => ?_)
      · have h := h.1 q3
        refine V_iinc (v := (v2 + 1)) (lv' := [(2, .int (v2 + 1)), (0, .ref (ad b)), (1, .int v1)]) C 2 dX2_peopleInRoomZero_24 rfl rfl (by decide) rfl ?_
        refine V_goto C 4 dX2_peopleInRoomZero_27 (by decide) ?_
        refine V_drop (lv' := [(0, .ref (ad b)), (1, .int v1), (2, .int (v2 + 1))]) [1, 2, 0] rfl ?_
        exact ih v1 (v2 + 1) M h 
      · have h := h.2 q3
        refine V_iinc (v := (v1 + 1)) (lv' := [(1, .int (v1 + 1)), (0, .ref (ad b)), (2, .int v2)]) C 1 dX2_peopleInRoomZero_21 rfl rfl (by decide) rfl ?_
        refine V_iinc (v := (v2 + 1)) (lv' := [(2, .int (v2 + 1)), (1, .int (v1 + 1)), (0, .ref (ad b))]) C 2 dX2_peopleInRoomZero_24 rfl rfl (by decide) rfl ?_
        refine V_goto C 4 dX2_peopleInRoomZero_27 (by decide) ?_
        refine V_drop (lv' := [(0, .ref (ad b)), (1, .int (v1 + 1)), (2, .int (v2 + 1))]) [2, 1, 0] rfl ?_
        exact ih (v1 + 1) (v2 + 1) M h 
  unfold w_X2_peopleInRoomZero at h
  refine V_iconst (v := (0 : Int32)) C dX2_peopleInRoomZero_0 (by decide) ?_
  refine V_istore_n (lv' := [(1, .int (0 : Int32)), (0, .ref (ad b))]) C dX2_peopleInRoomZero_1 rfl (by decide) rfl ?_
  refine V_iconst (v := (0 : Int32)) C dX2_peopleInRoomZero_2 (by decide) ?_
  refine V_istore_n (lv' := [(2, .int (0 : Int32)), (1, .int (0 : Int32)), (0, .ref (ad b))]) C dX2_peopleInRoomZero_3 rfl (by decide) rfl ?_
  refine V_drop (lv' := [(0, .ref (ad b)), (1, .int (0 : Int32)), (2, .int (0 : Int32))]) [2, 1, 0] rfl ?_
  obtain ⟨n0, h⟩ := h
  exact L4  n0 (0 : Int32) (0 : Int32) M h 
def w_X2_copyFrom (b : Nat) (b2 : Nat)  (M : Mm) (post : Mm → Prop) : Prop :=
  ∀ M1 : Mm, M1 = wI M b (upd (M.1 b) 1 (M.1 b2 1)) → (∀ M3 : Mm, M3 = wI M1 b (upd (M1.1 b) 2 (M1.1 b2 2)) → (∀ M5 : Mm, M5 = wI M3 b (upd (M3.1 b) 3 (M3.1 b2 3)) → (∀ M7 : Mm, M7 = wI M5 b (upd (M5.1 b) 12 (M5.1 b2 12)) → (∀ M9 : Mm, M9 = wI M7 b (upd (M7.1 b) 13 (M7.1 b2 13)) → (∀ M11 : Mm, M11 = wI M9 (b + 7) (va_cpy (M9.1 (b2 + 7)) (M9.1 (b + 7)) (0 : Int32).toNatClampNeg (0 : Int32).toNatClampNeg (7 : Int32).toNatClampNeg) → (∀ M13 : Mm, M13 = wI M11 (b + 8) (va_cpy (M11.1 (b2 + 8)) (M11.1 (b + 8)) (0 : Int32).toNatClampNeg (0 : Int32).toNatClampNeg (7 : Int32).toNatClampNeg) → (∀ M15 : Mm, M15 = wI M13 (b + 9) (va_cpy (M13.1 (b2 + 9)) (M13.1 (b + 9)) (0 : Int32).toNatClampNeg (0 : Int32).toNatClampNeg (7 : Int32).toNatClampNeg) → (∀ M17 : Mm, M17 = wI M15 (b + 10) (va_cpy (M15.1 (b2 + 10)) (M15.1 (b + 10)) (0 : Int32).toNatClampNeg (0 : Int32).toNatClampNeg (5 : Int32).toNatClampNeg) → (∀ M19 : Mm, M19 = wI M17 (b + 11) (va_cpy (M17.1 (b2 + 11)) (M17.1 (b + 11)) (0 : Int32).toNatClampNeg (0 : Int32).toNatClampNeg (5 : Int32).toNatClampNeg) → (∀ M21 : Mm, M21 = wI M19 (b + 12) (va_cpy (M19.1 (b2 + 12)) (M19.1 (b + 12)) (0 : Int32).toNatClampNeg (0 : Int32).toNatClampNeg (5 : Int32).toNatClampNeg) → (∀ M23 : Mm, M23 = wI M21 (b + 13) (va_cpy (M21.1 (b2 + 13)) (M21.1 (b + 13)) (0 : Int32).toNatClampNeg (0 : Int32).toNatClampNeg (5 : Int32).toNatClampNeg) → (∀ M25 : Mm, M25 = wI M23 (b + 14) (va_cpy (M23.1 (b2 + 14)) (M23.1 (b + 14)) (0 : Int32).toNatClampNeg (0 : Int32).toNatClampNeg (5 : Int32).toNatClampNeg) → (∀ M27 : Mm, M27 = wI M25 (b + 15) (va_cpy (M25.1 (b2 + 15)) (M25.1 (b + 15)) (0 : Int32).toNatClampNeg (0 : Int32).toNatClampNeg (6 : Int32).toNatClampNeg) → (∀ M29 : Mm, M29 = wI M27 (b + 16) (va_cpy (M27.1 (b2 + 16)) (M27.1 (b + 16)) (0 : Int32).toNatClampNeg (0 : Int32).toNatClampNeg (6 : Int32).toNatClampNeg) → (∀ M31 : Mm, M31 = wI M29 (b + 17) (va_cpy (M29.1 (b2 + 17)) (M29.1 (b + 17)) (0 : Int32).toNatClampNeg (0 : Int32).toNatClampNeg (6 : Int32).toNatClampNeg) → (∀ M33 : Mm, M33 = wI M31 (b + 18) (va_cpy (M31.1 (b2 + 18)) (M31.1 (b + 18)) (0 : Int32).toNatClampNeg (0 : Int32).toNatClampNeg (6 : Int32).toNatClampNeg) → (post M33)))))))))))))))))
theorem iw_X2_copyFrom_X2 : ∀ w ∈ u_ws RX2 TX2 18, w ∈ wsX2_copyFrom := by decide +kernel
theorem m_X2_copyFrom_f77 : Cond.fieldLink RX2 77 "ShameYards$House" "roomCount" "I" ∈ wsX2_copyFrom := by decide +kernel
theorem m_X2_copyFrom_f87 : Cond.fieldLink RX2 87 "ShameYards$House" "passageCount" "I" ∈ wsX2_copyFrom := by decide +kernel
theorem m_X2_copyFrom_f93 : Cond.fieldLink RX2 93 "ShameYards$House" "peopleCount" "I" ∈ wsX2_copyFrom := by decide +kernel
theorem m_X2_copyFrom_f99 : Cond.fieldLink RX2 99 "ShameYards$House" "walksTogether" "I" ∈ wsX2_copyFrom := by decide +kernel
theorem m_X2_copyFrom_f102 : Cond.fieldLink RX2 102 "ShameYards$House" "seenCount" "I" ∈ wsX2_copyFrom := by decide +kernel
theorem m_X2_copyFrom_f30 : Cond.fieldLink RX2 30 "ShameYards$House" "oneEnd" "[I" ∈ wsX2_copyFrom := by decide +kernel
theorem m_X2_copyFrom_l105 : Cond.methodLink RX2 105 arraycopyName ∈ wsX2_copyFrom := by decide +kernel
theorem m_X2_copyFrom_nac : Cond.native arraycopyName ∈ wsX2_copyFrom := by decide +kernel
theorem m_X2_copyFrom_sac : Cond.static arraycopyName ∈ wsX2_copyFrom := by decide +kernel
theorem m_X2_copyFrom_isys : Cond.initialized "java/lang/System" ∈ wsX2_copyFrom := by decide +kernel
theorem m_X2_copyFrom_f34 : Cond.fieldLink RX2 34 "ShameYards$House" "otherEnd" "[I" ∈ wsX2_copyFrom := by decide +kernel
theorem m_X2_copyFrom_f37 : Cond.fieldLink RX2 37 "ShameYards$House" "lengths" "[I" ∈ wsX2_copyFrom := by decide +kernel
theorem m_X2_copyFrom_f40 : Cond.fieldLink RX2 40 "ShameYards$House" "kinds" "[I" ∈ wsX2_copyFrom := by decide +kernel
theorem m_X2_copyFrom_f43 : Cond.fieldLink RX2 43 "ShameYards$House" "deeds" "[I" ∈ wsX2_copyFrom := by decide +kernel
theorem m_X2_copyFrom_f46 : Cond.fieldLink RX2 46 "ShameYards$House" "lies" "[I" ∈ wsX2_copyFrom := by decide +kernel
theorem m_X2_copyFrom_f49 : Cond.fieldLink RX2 49 "ShameYards$House" "places" "[I" ∈ wsX2_copyFrom := by decide +kernel
theorem m_X2_copyFrom_f52 : Cond.fieldLink RX2 52 "ShameYards$House" "taken" "[I" ∈ wsX2_copyFrom := by decide +kernel
theorem m_X2_copyFrom_f55 : Cond.fieldLink RX2 55 "ShameYards$House" "seenPerson" "[I" ∈ wsX2_copyFrom := by decide +kernel
theorem m_X2_copyFrom_f58 : Cond.fieldLink RX2 58 "ShameYards$House" "seenPassage" "[I" ∈ wsX2_copyFrom := by decide +kernel
theorem m_X2_copyFrom_f61 : Cond.fieldLink RX2 61 "ShameYards$House" "seenWith" "[I" ∈ wsX2_copyFrom := by decide +kernel
theorem m_X2_copyFrom_f64 : Cond.fieldLink RX2 64 "ShameYards$House" "seenSteps" "[I" ∈ wsX2_copyFrom := by decide +kernel
set_option maxHeartbeats 4000000 in
set_option maxRecDepth 100000 in
theorem c_X2_copyFrom (l : Launch) (D : va_G) (cy : Nat → ClassId) (ad : Nat → Nat) (A : Nat → Prop) (G : Gd A ad nsX) (b : Nat) (b2 : Nat) (h_b : isH b) (h_b2 : isH b2)  (M : Mm) (post : Mm → Prop) (h : w_X2_copyFrom b b2 M post) : CV l yX2_copyFrom wsX2_copyFrom (rmL 2) D (tysC cy) A ad nsX (ceX ad cy) (ExX A ad) [.ref (ad b), .ref (ad b2)] M post := by
  refine Met_V (cc := cX2_copyFrom) (maxL := 2) (ret := none) (by decide) rfl G Lo_X ExX_ok (Nat.le_of_ble_eq_true rfl) rfl ?_
  intro p e s m args below meth c C hr hlk
  have C : Cx p s m args c cX2_copyFrom 2 RX2 wsX2_copyFrom D (tysC cy) A ad nsX (ceX ad cy) (ExX A ad) := C
  unfold w_X2_copyFrom at h
  refine V_aload_n C 0 dX2_copyFrom_0 rfl ?_
  refine V_aload_n C 1 dX2_copyFrom_1 rfl ?_
  refine V_get (k0 := 1) (Cn := RX2) (T := TX2) (N := 18) C (hs_mem0 h_b2) rfl iw_X2_copyFrom_X2 (by decide) rfl m_X2_copyFrom_f77 ((ceX_H h_b2) _) rfl dX2_copyFrom_2 ?_
  refine V_putI (k0 := 1) (Cn := RX2) (T := TX2) (N := 18) C (hs_mem0 h_b) rfl iw_X2_copyFrom_X2 (by decide) rfl m_X2_copyFrom_f77 tyX2_ok nmX2 rfl (show _ = some FieldType.int by decide +kernel) rfl rfl (Nat.le_of_ble_eq_true rfl) ((ceX_H h_b) _) (stXH_1 h_b _ _) dX2_copyFrom_5 (fun M1 e2 => ?_)
  have h := h M1 e2
  refine V_aload_n C 0 dX2_copyFrom_8 rfl ?_
  refine V_aload_n C 1 dX2_copyFrom_9 rfl ?_
  refine V_get (k0 := 2) (Cn := RX2) (T := TX2) (N := 18) C (hs_mem0 h_b2) rfl iw_X2_copyFrom_X2 (by decide) rfl m_X2_copyFrom_f87 ((ceX_H h_b2) _) rfl dX2_copyFrom_10 ?_
  refine V_putI (k0 := 2) (Cn := RX2) (T := TX2) (N := 18) C (hs_mem0 h_b) rfl iw_X2_copyFrom_X2 (by decide) rfl m_X2_copyFrom_f87 tyX2_ok nmX2 rfl (show _ = some FieldType.int by decide +kernel) rfl rfl (Nat.le_of_ble_eq_true rfl) ((ceX_H h_b) _) (stXH_2 h_b _ _) dX2_copyFrom_13 (fun M3 e4 => ?_)
  have h := h M3 e4
  refine V_aload_n C 0 dX2_copyFrom_16 rfl ?_
  refine V_aload_n C 1 dX2_copyFrom_17 rfl ?_
  refine V_get (k0 := 3) (Cn := RX2) (T := TX2) (N := 18) C (hs_mem0 h_b2) rfl iw_X2_copyFrom_X2 (by decide) rfl m_X2_copyFrom_f93 ((ceX_H h_b2) _) rfl dX2_copyFrom_18 ?_
  refine V_putI (k0 := 3) (Cn := RX2) (T := TX2) (N := 18) C (hs_mem0 h_b) rfl iw_X2_copyFrom_X2 (by decide) rfl m_X2_copyFrom_f93 tyX2_ok nmX2 rfl (show _ = some FieldType.int by decide +kernel) rfl rfl (Nat.le_of_ble_eq_true rfl) ((ceX_H h_b) _) (stXH_3 h_b _ _) dX2_copyFrom_21 (fun M5 e6 => ?_)
  have h := h M5 e6
  refine V_aload_n C 0 dX2_copyFrom_24 rfl ?_
  refine V_aload_n C 1 dX2_copyFrom_25 rfl ?_
  refine V_get (k0 := 12) (Cn := RX2) (T := TX2) (N := 18) C (hs_mem0 h_b2) rfl iw_X2_copyFrom_X2 (by decide) rfl m_X2_copyFrom_f99 ((ceX_H h_b2) _) rfl dX2_copyFrom_26 ?_
  refine V_putI (k0 := 12) (Cn := RX2) (T := TX2) (N := 18) C (hs_mem0 h_b) rfl iw_X2_copyFrom_X2 (by decide) rfl m_X2_copyFrom_f99 tyX2_ok nmX2 rfl (show _ = some FieldType.int by decide +kernel) rfl rfl (Nat.le_of_ble_eq_true rfl) ((ceX_H h_b) _) (stXH_12 h_b _ _) dX2_copyFrom_29 (fun M7 e8 => ?_)
  have h := h M7 e8
  refine V_aload_n C 0 dX2_copyFrom_32 rfl ?_
  refine V_aload_n C 1 dX2_copyFrom_33 rfl ?_
  refine V_get (k0 := 13) (Cn := RX2) (T := TX2) (N := 18) C (hs_mem0 h_b2) rfl iw_X2_copyFrom_X2 (by decide) rfl m_X2_copyFrom_f102 ((ceX_H h_b2) _) rfl dX2_copyFrom_34 ?_
  refine V_putI (k0 := 13) (Cn := RX2) (T := TX2) (N := 18) C (hs_mem0 h_b) rfl iw_X2_copyFrom_X2 (by decide) rfl m_X2_copyFrom_f102 tyX2_ok nmX2 rfl (show _ = some FieldType.int by decide +kernel) rfl rfl (Nat.le_of_ble_eq_true rfl) ((ceX_H h_b) _) (stXH_13 h_b _ _) dX2_copyFrom_37 (fun M9 e10 => ?_)
  have h := h M9 e10
  refine V_aload_n C 1 dX2_copyFrom_40 rfl ?_
  refine V_get (k0 := 4) (Cn := RX2) (T := TX2) (N := 18) C (hs_mem0 h_b2) rfl iw_X2_copyFrom_X2 (by decide) rfl m_X2_copyFrom_f30 ((ceX_H h_b2) _) rfl dX2_copyFrom_41 ?_
  refine V_iconst (v := (0 : Int32)) C dX2_copyFrom_44 (by decide) ?_
  refine V_aload_n C 0 dX2_copyFrom_45 rfl ?_
  refine V_get (k0 := 4) (Cn := RX2) (T := TX2) (N := 18) C (hs_mem0 h_b) rfl iw_X2_copyFrom_X2 (by decide) rfl m_X2_copyFrom_f30 ((ceX_H h_b) _) rfl dX2_copyFrom_46 ?_
  refine V_iconst (v := (0 : Int32)) C dX2_copyFrom_49 (by decide) ?_
  refine V_bipush (v := (7 : Int32)) C dX2_copyFrom_50 (by decide) ?_
  refine V_copyi (t0 := 1) (L0 := 7) (L1 := 7) C m_X2_copyFrom_l105 m_X2_copyFrom_nac m_X2_copyFrom_sac m_X2_copyFrom_isys (hs_mem h_b2 (by decide)) (hs_mem h_b (by decide)) (hs_7 h_b2) (hs_7 h_b) rfl (by decide) (by decide) (by decide) (by decide) (by decide) (by decide) (Nat.le_of_ble_eq_true rfl) dX2_copyFrom_52 (fun M11 e12 => ?_)
  have h := h M11 e12
  refine V_aload_n C 1 dX2_copyFrom_55 rfl ?_
  refine V_get (k0 := 5) (Cn := RX2) (T := TX2) (N := 18) C (hs_mem0 h_b2) rfl iw_X2_copyFrom_X2 (by decide) rfl m_X2_copyFrom_f34 ((ceX_H h_b2) _) rfl dX2_copyFrom_56 ?_
  refine V_iconst (v := (0 : Int32)) C dX2_copyFrom_59 (by decide) ?_
  refine V_aload_n C 0 dX2_copyFrom_60 rfl ?_
  refine V_get (k0 := 5) (Cn := RX2) (T := TX2) (N := 18) C (hs_mem0 h_b) rfl iw_X2_copyFrom_X2 (by decide) rfl m_X2_copyFrom_f34 ((ceX_H h_b) _) rfl dX2_copyFrom_61 ?_
  refine V_iconst (v := (0 : Int32)) C dX2_copyFrom_64 (by decide) ?_
  refine V_bipush (v := (7 : Int32)) C dX2_copyFrom_65 (by decide) ?_
  refine V_copyi (t0 := 1) (L0 := 7) (L1 := 7) C m_X2_copyFrom_l105 m_X2_copyFrom_nac m_X2_copyFrom_sac m_X2_copyFrom_isys (hs_mem h_b2 (by decide)) (hs_mem h_b (by decide)) (hs_8 h_b2) (hs_8 h_b) rfl (by decide) (by decide) (by decide) (by decide) (by decide) (by decide) (Nat.le_of_ble_eq_true rfl) dX2_copyFrom_67 (fun M13 e14 => ?_)
  have h := h M13 e14
  refine V_aload_n C 1 dX2_copyFrom_70 rfl ?_
  refine V_get (k0 := 6) (Cn := RX2) (T := TX2) (N := 18) C (hs_mem0 h_b2) rfl iw_X2_copyFrom_X2 (by decide) rfl m_X2_copyFrom_f37 ((ceX_H h_b2) _) rfl dX2_copyFrom_71 ?_
  refine V_iconst (v := (0 : Int32)) C dX2_copyFrom_74 (by decide) ?_
  refine V_aload_n C 0 dX2_copyFrom_75 rfl ?_
  refine V_get (k0 := 6) (Cn := RX2) (T := TX2) (N := 18) C (hs_mem0 h_b) rfl iw_X2_copyFrom_X2 (by decide) rfl m_X2_copyFrom_f37 ((ceX_H h_b) _) rfl dX2_copyFrom_76 ?_
  refine V_iconst (v := (0 : Int32)) C dX2_copyFrom_79 (by decide) ?_
  refine V_bipush (v := (7 : Int32)) C dX2_copyFrom_80 (by decide) ?_
  refine V_copyi (t0 := 1) (L0 := 7) (L1 := 7) C m_X2_copyFrom_l105 m_X2_copyFrom_nac m_X2_copyFrom_sac m_X2_copyFrom_isys (hs_mem h_b2 (by decide)) (hs_mem h_b (by decide)) (hs_9 h_b2) (hs_9 h_b) rfl (by decide) (by decide) (by decide) (by decide) (by decide) (by decide) (Nat.le_of_ble_eq_true rfl) dX2_copyFrom_82 (fun M15 e16 => ?_)
  have h := h M15 e16
  refine V_aload_n C 1 dX2_copyFrom_85 rfl ?_
  refine V_get (k0 := 7) (Cn := RX2) (T := TX2) (N := 18) C (hs_mem0 h_b2) rfl iw_X2_copyFrom_X2 (by decide) rfl m_X2_copyFrom_f40 ((ceX_H h_b2) _) rfl dX2_copyFrom_86 ?_
  refine V_iconst (v := (0 : Int32)) C dX2_copyFrom_89 (by decide) ?_
  refine V_aload_n C 0 dX2_copyFrom_90 rfl ?_
  refine V_get (k0 := 7) (Cn := RX2) (T := TX2) (N := 18) C (hs_mem0 h_b) rfl iw_X2_copyFrom_X2 (by decide) rfl m_X2_copyFrom_f40 ((ceX_H h_b) _) rfl dX2_copyFrom_91 ?_
  refine V_iconst (v := (0 : Int32)) C dX2_copyFrom_94 (by decide) ?_
  refine V_iconst (v := (5 : Int32)) C dX2_copyFrom_95 (by decide) ?_
  refine V_copyi (t0 := 1) (L0 := 5) (L1 := 5) C m_X2_copyFrom_l105 m_X2_copyFrom_nac m_X2_copyFrom_sac m_X2_copyFrom_isys (hs_mem h_b2 (by decide)) (hs_mem h_b (by decide)) (hs_10 h_b2) (hs_10 h_b) rfl (by decide) (by decide) (by decide) (by decide) (by decide) (by decide) (Nat.le_of_ble_eq_true rfl) dX2_copyFrom_96 (fun M17 e18 => ?_)
  have h := h M17 e18
  refine V_aload_n C 1 dX2_copyFrom_99 rfl ?_
  refine V_get (k0 := 8) (Cn := RX2) (T := TX2) (N := 18) C (hs_mem0 h_b2) rfl iw_X2_copyFrom_X2 (by decide) rfl m_X2_copyFrom_f43 ((ceX_H h_b2) _) rfl dX2_copyFrom_100 ?_
  refine V_iconst (v := (0 : Int32)) C dX2_copyFrom_103 (by decide) ?_
  refine V_aload_n C 0 dX2_copyFrom_104 rfl ?_
  refine V_get (k0 := 8) (Cn := RX2) (T := TX2) (N := 18) C (hs_mem0 h_b) rfl iw_X2_copyFrom_X2 (by decide) rfl m_X2_copyFrom_f43 ((ceX_H h_b) _) rfl dX2_copyFrom_105 ?_
  refine V_iconst (v := (0 : Int32)) C dX2_copyFrom_108 (by decide) ?_
  refine V_iconst (v := (5 : Int32)) C dX2_copyFrom_109 (by decide) ?_
  refine V_copyi (t0 := 1) (L0 := 5) (L1 := 5) C m_X2_copyFrom_l105 m_X2_copyFrom_nac m_X2_copyFrom_sac m_X2_copyFrom_isys (hs_mem h_b2 (by decide)) (hs_mem h_b (by decide)) (hs_11 h_b2) (hs_11 h_b) rfl (by decide) (by decide) (by decide) (by decide) (by decide) (by decide) (Nat.le_of_ble_eq_true rfl) dX2_copyFrom_110 (fun M19 e20 => ?_)
  have h := h M19 e20
  refine V_aload_n C 1 dX2_copyFrom_113 rfl ?_
  refine V_get (k0 := 9) (Cn := RX2) (T := TX2) (N := 18) C (hs_mem0 h_b2) rfl iw_X2_copyFrom_X2 (by decide) rfl m_X2_copyFrom_f46 ((ceX_H h_b2) _) rfl dX2_copyFrom_114 ?_
  refine V_iconst (v := (0 : Int32)) C dX2_copyFrom_117 (by decide) ?_
  refine V_aload_n C 0 dX2_copyFrom_118 rfl ?_
  refine V_get (k0 := 9) (Cn := RX2) (T := TX2) (N := 18) C (hs_mem0 h_b) rfl iw_X2_copyFrom_X2 (by decide) rfl m_X2_copyFrom_f46 ((ceX_H h_b) _) rfl dX2_copyFrom_119 ?_
  refine V_iconst (v := (0 : Int32)) C dX2_copyFrom_122 (by decide) ?_
  refine V_iconst (v := (5 : Int32)) C dX2_copyFrom_123 (by decide) ?_
  refine V_copyi (t0 := 1) (L0 := 5) (L1 := 5) C m_X2_copyFrom_l105 m_X2_copyFrom_nac m_X2_copyFrom_sac m_X2_copyFrom_isys (hs_mem h_b2 (by decide)) (hs_mem h_b (by decide)) (hs_12 h_b2) (hs_12 h_b) rfl (by decide) (by decide) (by decide) (by decide) (by decide) (by decide) (Nat.le_of_ble_eq_true rfl) dX2_copyFrom_124 (fun M21 e22 => ?_)
  have h := h M21 e22
  refine V_aload_n C 1 dX2_copyFrom_127 rfl ?_
  refine V_get (k0 := 10) (Cn := RX2) (T := TX2) (N := 18) C (hs_mem0 h_b2) rfl iw_X2_copyFrom_X2 (by decide) rfl m_X2_copyFrom_f49 ((ceX_H h_b2) _) rfl dX2_copyFrom_128 ?_
  refine V_iconst (v := (0 : Int32)) C dX2_copyFrom_131 (by decide) ?_
  refine V_aload_n C 0 dX2_copyFrom_132 rfl ?_
  refine V_get (k0 := 10) (Cn := RX2) (T := TX2) (N := 18) C (hs_mem0 h_b) rfl iw_X2_copyFrom_X2 (by decide) rfl m_X2_copyFrom_f49 ((ceX_H h_b) _) rfl dX2_copyFrom_133 ?_
  refine V_iconst (v := (0 : Int32)) C dX2_copyFrom_136 (by decide) ?_
  refine V_iconst (v := (5 : Int32)) C dX2_copyFrom_137 (by decide) ?_
  refine V_copyi (t0 := 1) (L0 := 5) (L1 := 5) C m_X2_copyFrom_l105 m_X2_copyFrom_nac m_X2_copyFrom_sac m_X2_copyFrom_isys (hs_mem h_b2 (by decide)) (hs_mem h_b (by decide)) (hs_13 h_b2) (hs_13 h_b) rfl (by decide) (by decide) (by decide) (by decide) (by decide) (by decide) (Nat.le_of_ble_eq_true rfl) dX2_copyFrom_138 (fun M23 e24 => ?_)
  have h := h M23 e24
  refine V_aload_n C 1 dX2_copyFrom_141 rfl ?_
  refine V_get (k0 := 11) (Cn := RX2) (T := TX2) (N := 18) C (hs_mem0 h_b2) rfl iw_X2_copyFrom_X2 (by decide) rfl m_X2_copyFrom_f52 ((ceX_H h_b2) _) rfl dX2_copyFrom_142 ?_
  refine V_iconst (v := (0 : Int32)) C dX2_copyFrom_145 (by decide) ?_
  refine V_aload_n C 0 dX2_copyFrom_146 rfl ?_
  refine V_get (k0 := 11) (Cn := RX2) (T := TX2) (N := 18) C (hs_mem0 h_b) rfl iw_X2_copyFrom_X2 (by decide) rfl m_X2_copyFrom_f52 ((ceX_H h_b) _) rfl dX2_copyFrom_147 ?_
  refine V_iconst (v := (0 : Int32)) C dX2_copyFrom_150 (by decide) ?_
  refine V_iconst (v := (5 : Int32)) C dX2_copyFrom_151 (by decide) ?_
  refine V_copyi (t0 := 1) (L0 := 5) (L1 := 5) C m_X2_copyFrom_l105 m_X2_copyFrom_nac m_X2_copyFrom_sac m_X2_copyFrom_isys (hs_mem h_b2 (by decide)) (hs_mem h_b (by decide)) (hs_14 h_b2) (hs_14 h_b) rfl (by decide) (by decide) (by decide) (by decide) (by decide) (by decide) (Nat.le_of_ble_eq_true rfl) dX2_copyFrom_152 (fun M25 e26 => ?_)
  have h := h M25 e26
  refine V_aload_n C 1 dX2_copyFrom_155 rfl ?_
  refine V_get (k0 := 14) (Cn := RX2) (T := TX2) (N := 18) C (hs_mem0 h_b2) rfl iw_X2_copyFrom_X2 (by decide) rfl m_X2_copyFrom_f55 ((ceX_H h_b2) _) rfl dX2_copyFrom_156 ?_
  refine V_iconst (v := (0 : Int32)) C dX2_copyFrom_159 (by decide) ?_
  refine V_aload_n C 0 dX2_copyFrom_160 rfl ?_
  refine V_get (k0 := 14) (Cn := RX2) (T := TX2) (N := 18) C (hs_mem0 h_b) rfl iw_X2_copyFrom_X2 (by decide) rfl m_X2_copyFrom_f55 ((ceX_H h_b) _) rfl dX2_copyFrom_161 ?_
  refine V_iconst (v := (0 : Int32)) C dX2_copyFrom_164 (by decide) ?_
  refine V_bipush (v := (6 : Int32)) C dX2_copyFrom_165 (by decide) ?_
  refine V_copyi (t0 := 1) (L0 := 6) (L1 := 6) C m_X2_copyFrom_l105 m_X2_copyFrom_nac m_X2_copyFrom_sac m_X2_copyFrom_isys (hs_mem h_b2 (by decide)) (hs_mem h_b (by decide)) (hs_15 h_b2) (hs_15 h_b) rfl (by decide) (by decide) (by decide) (by decide) (by decide) (by decide) (Nat.le_of_ble_eq_true rfl) dX2_copyFrom_167 (fun M27 e28 => ?_)
  have h := h M27 e28
  refine V_aload_n C 1 dX2_copyFrom_170 rfl ?_
  refine V_get (k0 := 15) (Cn := RX2) (T := TX2) (N := 18) C (hs_mem0 h_b2) rfl iw_X2_copyFrom_X2 (by decide) rfl m_X2_copyFrom_f58 ((ceX_H h_b2) _) rfl dX2_copyFrom_171 ?_
  refine V_iconst (v := (0 : Int32)) C dX2_copyFrom_174 (by decide) ?_
  refine V_aload_n C 0 dX2_copyFrom_175 rfl ?_
  refine V_get (k0 := 15) (Cn := RX2) (T := TX2) (N := 18) C (hs_mem0 h_b) rfl iw_X2_copyFrom_X2 (by decide) rfl m_X2_copyFrom_f58 ((ceX_H h_b) _) rfl dX2_copyFrom_176 ?_
  refine V_iconst (v := (0 : Int32)) C dX2_copyFrom_179 (by decide) ?_
  refine V_bipush (v := (6 : Int32)) C dX2_copyFrom_180 (by decide) ?_
  refine V_copyi (t0 := 1) (L0 := 6) (L1 := 6) C m_X2_copyFrom_l105 m_X2_copyFrom_nac m_X2_copyFrom_sac m_X2_copyFrom_isys (hs_mem h_b2 (by decide)) (hs_mem h_b (by decide)) (hs_16 h_b2) (hs_16 h_b) rfl (by decide) (by decide) (by decide) (by decide) (by decide) (by decide) (Nat.le_of_ble_eq_true rfl) dX2_copyFrom_182 (fun M29 e30 => ?_)
  have h := h M29 e30
  refine V_aload_n C 1 dX2_copyFrom_185 rfl ?_
  refine V_get (k0 := 16) (Cn := RX2) (T := TX2) (N := 18) C (hs_mem0 h_b2) rfl iw_X2_copyFrom_X2 (by decide) rfl m_X2_copyFrom_f61 ((ceX_H h_b2) _) rfl dX2_copyFrom_186 ?_
  refine V_iconst (v := (0 : Int32)) C dX2_copyFrom_189 (by decide) ?_
  refine V_aload_n C 0 dX2_copyFrom_190 rfl ?_
  refine V_get (k0 := 16) (Cn := RX2) (T := TX2) (N := 18) C (hs_mem0 h_b) rfl iw_X2_copyFrom_X2 (by decide) rfl m_X2_copyFrom_f61 ((ceX_H h_b) _) rfl dX2_copyFrom_191 ?_
  refine V_iconst (v := (0 : Int32)) C dX2_copyFrom_194 (by decide) ?_
  refine V_bipush (v := (6 : Int32)) C dX2_copyFrom_195 (by decide) ?_
  refine V_copyi (t0 := 1) (L0 := 6) (L1 := 6) C m_X2_copyFrom_l105 m_X2_copyFrom_nac m_X2_copyFrom_sac m_X2_copyFrom_isys (hs_mem h_b2 (by decide)) (hs_mem h_b (by decide)) (hs_17 h_b2) (hs_17 h_b) rfl (by decide) (by decide) (by decide) (by decide) (by decide) (by decide) (Nat.le_of_ble_eq_true rfl) dX2_copyFrom_197 (fun M31 e32 => ?_)
  have h := h M31 e32
  refine V_aload_n C 1 dX2_copyFrom_200 rfl ?_
  refine V_get (k0 := 17) (Cn := RX2) (T := TX2) (N := 18) C (hs_mem0 h_b2) rfl iw_X2_copyFrom_X2 (by decide) rfl m_X2_copyFrom_f64 ((ceX_H h_b2) _) rfl dX2_copyFrom_201 ?_
  refine V_iconst (v := (0 : Int32)) C dX2_copyFrom_204 (by decide) ?_
  refine V_aload_n C 0 dX2_copyFrom_205 rfl ?_
  refine V_get (k0 := 17) (Cn := RX2) (T := TX2) (N := 18) C (hs_mem0 h_b) rfl iw_X2_copyFrom_X2 (by decide) rfl m_X2_copyFrom_f64 ((ceX_H h_b) _) rfl dX2_copyFrom_206 ?_
  refine V_iconst (v := (0 : Int32)) C dX2_copyFrom_209 (by decide) ?_
  refine V_bipush (v := (6 : Int32)) C dX2_copyFrom_210 (by decide) ?_
  refine V_copyi (t0 := 1) (L0 := 6) (L1 := 6) C m_X2_copyFrom_l105 m_X2_copyFrom_nac m_X2_copyFrom_sac m_X2_copyFrom_isys (hs_mem h_b2 (by decide)) (hs_mem h_b (by decide)) (hs_18 h_b2) (hs_18 h_b) rfl (by decide) (by decide) (by decide) (by decide) (by decide) (by decide) (Nat.le_of_ble_eq_true rfl) dX2_copyFrom_212 (fun M33 e34 => ?_)
  have h := h M33 e34
  exact V_vret C hr hlk dX2_copyFrom_215 h
