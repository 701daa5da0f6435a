def w_X11_isOfKind_k1 (r : Nat) (x1 : Int32) (M : Mm) (post : Int32 → Mm → Prop) : Prop :=
  ((x1 = 1) → (post (0 : Int32) M)) ∧ ((¬ x1 = 1) → (((x1 = 2) → (post (0 : Int32) M)) ∧ ((¬ x1 = 2) → (((x1 = 3) → (post (0 : Int32) M)) ∧ ((¬ x1 = 3) → (((x1 = 4) → (post (0 : Int32) M)) ∧ ((¬ x1 = 4) → (post (1 : Int32) M))))))))
theorem m_X11_isOfKind_k1_k119 : Cond.classLink RX11 119 "ShameYards$Boy" ∈ wsX11_isOfKind := by decide +kernel
theorem m_X11_isOfKind_k1_k121 : Cond.classLink RX11 121 "ShameYards$Minister" ∈ wsX11_isOfKind := by decide +kernel
theorem m_X11_isOfKind_k1_k123 : Cond.classLink RX11 123 "ShameYards$Woman" ∈ wsX11_isOfKind := by decide +kernel
theorem m_X11_isOfKind_k1_k125 : Cond.classLink RX11 125 "ShameYards$Lamp" ∈ wsX11_isOfKind := by decide +kernel
set_option maxHeartbeats 4000000 in
set_option maxRecDepth 100000 in
theorem c_X11_isOfKind_k1 (l : Launch) (D : va_G) (cy : Nat → ClassId) (ad : Nat → Nat) (A : Nat → Prop) (G : Gd A ad nsX) (r : Nat) (m_r : r < 84) (k_r : kdX r = 1) (x1 : Int32) (M : Mm) (post : Int32 → Mm → Prop) (h : w_X11_isOfKind_k1 r x1 M post) : CI l yX11_isOfKind wsX11_isOfKind (rmL 2) D (tysC cy) A ad nsX (ceX ad cy) (ExX A ad) [.ref (ad r), .int x1] M (fun r M' => (r = 0 ∨ r = 1) ∧ post r M') := by
  refine Met_V (cc := cX11_isOfKind) (maxL := 2) (ret := (some .boolean)) (by decide) rfl G Lo_X ExX_ok (Nat.le_of_ble_eq_true rfl) rfl ?_
  intro p e s m args below meth c C hr hlk
  have C : Cx p s m args c cX11_isOfKind 2 RX11 wsX11_isOfKind D (tysC cy) A ad nsX (ceX ad cy) (ExX A ad) := C
  unfold w_X11_isOfKind_k1 at h
  refine V_iload_n C 1 dX11_isOfKind_0 rfl ?_
  by_cases q1 : x1 = 1
  · have h := h.1 q1
    refine V_tswIn C 32 dX11_isOfKind_1 (by rw [q1]; decide) (by rw [q1]; decide) (by rw [q1]; rfl) (by decide) ?_
    refine V_aload_n C 0 dX11_isOfKind_32 rfl ?_
    refine V_instNo (q := (RX1, TX1, 0)) C (nsX_mem m_r) ((ceX_k1 k_r) _) rfl m_X11_isOfKind_k1_k119 C.2.2.2.2.1.1.1.1 dX11_isOfKind_33 ?_
    exact V_zret C hr hlk (Or.inl rfl) dX11_isOfKind_36 h
  · have h := h.2 q1
    by_cases q2 : x1 = 2
    · have h := h.1 q2
      refine V_tswIn C 37 dX11_isOfKind_1 (by rw [q2]; decide) (by rw [q2]; decide) (by rw [q2]; rfl) (by decide) ?_
      refine V_aload_n C 0 dX11_isOfKind_37 rfl ?_
      refine V_instNo (q := (RX1, TX1, 0)) C (nsX_mem m_r) ((ceX_k1 k_r) _) rfl m_X11_isOfKind_k1_k121 C.2.2.2.2.1.1.1.2.1 dX11_isOfKind_38 ?_
      exact V_zret C hr hlk (Or.inl rfl) dX11_isOfKind_41 h
    · have h := h.2 q2
      by_cases q3 : x1 = 3
      · have h := h.1 q3
        refine V_tswIn C 42 dX11_isOfKind_1 (by rw [q3]; decide) (by rw [q3]; decide) (by rw [q3]; rfl) (by decide) ?_
        refine V_aload_n C 0 dX11_isOfKind_42 rfl ?_
        refine V_instNo (q := (RX1, TX1, 0)) C (nsX_mem m_r) ((ceX_k1 k_r) _) rfl m_X11_isOfKind_k1_k123 C.2.2.2.2.1.1.1.2.2.1 dX11_isOfKind_43 ?_
        exact V_zret C hr hlk (Or.inl rfl) dX11_isOfKind_46 h
      · have h := h.2 q3
        by_cases q4 : x1 = 4
        · have h := h.1 q4
          refine V_tswIn C 47 dX11_isOfKind_1 (by rw [q4]; decide) (by rw [q4]; decide) (by rw [q4]; rfl) (by decide) ?_
          refine V_aload_n C 0 dX11_isOfKind_47 rfl ?_
          refine V_instNo (q := (RX1, TX1, 0)) C (nsX_mem m_r) ((ceX_k1 k_r) _) rfl m_X11_isOfKind_k1_k125 C.2.2.2.2.1.1.1.2.2.2 dX11_isOfKind_48 ?_
          exact V_zret C hr hlk (Or.inl rfl) dX11_isOfKind_51 h
        · have h := h.2 q4
          refine V_tswOut C 52 dX11_isOfKind_1 (by have := lv_neT q1 (show (1 : Int32).toInt = 1 by decide); have := lv_neT q2 (show (2 : Int32).toInt = 2 by decide); have := lv_neT q3 (show (3 : Int32).toInt = 3 by decide); have := lv_neT q4 (show (4 : Int32).toInt = 4 by decide); omega) (by decide) ?_
          refine V_iconst (v := (1 : Int32)) C dX11_isOfKind_52 (by decide) ?_
          exact V_zret C hr hlk (Or.inr rfl) dX11_isOfKind_53 h
def w_X11_isOfKind_k0 (r : Nat) (x1 : Int32) (M : Mm) (post : Int32 → Mm → Prop) : Prop :=
  ((x1 = 1) → (post (1 : Int32) M)) ∧ ((¬ x1 = 1) → (((x1 = 2) → (post (0 : Int32) M)) ∧ ((¬ x1 = 2) → (((x1 = 3) → (post (0 : Int32) M)) ∧ ((¬ x1 = 3) → (((x1 = 4) → (post (0 : Int32) M)) ∧ ((¬ x1 = 4) → (post (1 : Int32) M))))))))
theorem m_X11_isOfKind_k0_k119 : Cond.classLink RX11 119 "ShameYards$Boy" ∈ wsX11_isOfKind := by decide +kernel
theorem m_X11_isOfKind_k0_k121 : Cond.classLink RX11 121 "ShameYards$Minister" ∈ wsX11_isOfKind := by decide +kernel
theorem m_X11_isOfKind_k0_k123 : Cond.classLink RX11 123 "ShameYards$Woman" ∈ wsX11_isOfKind := by decide +kernel
theorem m_X11_isOfKind_k0_k125 : Cond.classLink RX11 125 "ShameYards$Lamp" ∈ wsX11_isOfKind := by decide +kernel
set_option maxHeartbeats 4000000 in
set_option maxRecDepth 100000 in
theorem c_X11_isOfKind_k0 (l : Launch) (D : va_G) (cy : Nat → ClassId) (ad : Nat → Nat) (A : Nat → Prop) (G : Gd A ad nsX) (r : Nat) (m_r : r < 84) (k_r : kdX r = 0) (x1 : Int32) (M : Mm) (post : Int32 → Mm → Prop) (h : w_X11_isOfKind_k0 r x1 M post) : CI l yX11_isOfKind wsX11_isOfKind (rmL 2) D (tysC cy) A ad nsX (ceX ad cy) (ExX A ad) [.ref (ad r), .int x1] M (fun r M' => (r = 0 ∨ r = 1) ∧ post r M') := by
  refine Met_V (cc := cX11_isOfKind) (maxL := 2) (ret := (some .boolean)) (by decide) rfl G Lo_X ExX_ok (Nat.le_of_ble_eq_true rfl) rfl ?_
  intro p e s m args below meth c C hr hlk
  have C : Cx p s m args c cX11_isOfKind 2 RX11 wsX11_isOfKind D (tysC cy) A ad nsX (ceX ad cy) (ExX A ad) := C
  unfold w_X11_isOfKind_k0 at h
  refine V_iload_n C 1 dX11_isOfKind_0 rfl ?_
  by_cases q1 : x1 = 1
  · have h := h.1 q1
    refine V_tswIn C 32 dX11_isOfKind_1 (by rw [q1]; decide) (by rw [q1]; decide) (by rw [q1]; rfl) (by decide) ?_
    refine V_aload_n C 0 dX11_isOfKind_32 rfl ?_
    refine V_instS (q := (RX0, TX0, 0)) C (nsX_mem m_r) ((ceX_k0 k_r) _) rfl rfl m_X11_isOfKind_k0_k119 dX11_isOfKind_33 ?_
    exact V_zret C hr hlk (Or.inr rfl) dX11_isOfKind_36 h
  · have h := h.2 q1
    by_cases q2 : x1 = 2
    · have h := h.1 q2
      refine V_tswIn C 37 dX11_isOfKind_1 (by rw [q2]; decide) (by rw [q2]; decide) (by rw [q2]; rfl) (by decide) ?_
      refine V_aload_n C 0 dX11_isOfKind_37 rfl ?_
      refine V_instNo (q := (RX0, TX0, 0)) C (nsX_mem m_r) ((ceX_k0 k_r) _) rfl m_X11_isOfKind_k0_k121 C.2.2.2.2.1.1.2.1.1 dX11_isOfKind_38 ?_
      exact V_zret C hr hlk (Or.inl rfl) dX11_isOfKind_41 h
    · have h := h.2 q2
      by_cases q3 : x1 = 3
      · have h := h.1 q3
        refine V_tswIn C 42 dX11_isOfKind_1 (by rw [q3]; decide) (by rw [q3]; decide) (by rw [q3]; rfl) (by decide) ?_
        refine V_aload_n C 0 dX11_isOfKind_42 rfl ?_
        refine V_instNo (q := (RX0, TX0, 0)) C (nsX_mem m_r) ((ceX_k0 k_r) _) rfl m_X11_isOfKind_k0_k123 C.2.2.2.2.1.1.2.1.2.1 dX11_isOfKind_43 ?_
        exact V_zret C hr hlk (Or.inl rfl) dX11_isOfKind_46 h
      · have h := h.2 q3
        by_cases q4 : x1 = 4
        · have h := h.1 q4
          refine V_tswIn C 47 dX11_isOfKind_1 (by rw [q4]; decide) (by rw [q4]; decide) (by rw [q4]; rfl) (by decide) ?_
          refine V_aload_n C 0 dX11_isOfKind_47 rfl ?_
          refine V_instNo (q := (RX0, TX0, 0)) C (nsX_mem m_r) ((ceX_k0 k_r) _) rfl m_X11_isOfKind_k0_k125 C.2.2.2.2.1.1.2.1.2.2 dX11_isOfKind_48 ?_
          exact V_zret C hr hlk (Or.inl rfl) dX11_isOfKind_51 h
        · have h := h.2 q4
          refine V_tswOut C 52 dX11_isOfKind_1 (by have := lv_neT q1 (show (1 : Int32).toInt = 1 by decide); have := lv_neT q2 (show (2 : Int32).toInt = 2 by decide); have := lv_neT q3 (show (3 : Int32).toInt = 3 by decide); have := lv_neT q4 (show (4 : Int32).toInt = 4 by decide); omega) (by decide) ?_
          refine V_iconst (v := (1 : Int32)) C dX11_isOfKind_52 (by decide) ?_
          exact V_zret C hr hlk (Or.inr rfl) dX11_isOfKind_53 h
def w_X11_isOfKind_k4 (r : Nat) (x1 : Int32) (M : Mm) (post : Int32 → Mm → Prop) : Prop :=
  ((x1 = 1) → (post (0 : Int32) M)) ∧ ((¬ x1 = 1) → (((x1 = 2) → (post (1 : Int32) M)) ∧ ((¬ x1 = 2) → (((x1 = 3) → (post (0 : Int32) M)) ∧ ((¬ x1 = 3) → (((x1 = 4) → (post (0 : Int32) M)) ∧ ((¬ x1 = 4) → (post (1 : Int32) M))))))))
theorem m_X11_isOfKind_k4_k119 : Cond.classLink RX11 119 "ShameYards$Boy" ∈ wsX11_isOfKind := by decide +kernel
theorem m_X11_isOfKind_k4_k121 : Cond.classLink RX11 121 "ShameYards$Minister" ∈ wsX11_isOfKind := by decide +kernel
theorem m_X11_isOfKind_k4_k123 : Cond.classLink RX11 123 "ShameYards$Woman" ∈ wsX11_isOfKind := by decide +kernel
theorem m_X11_isOfKind_k4_k125 : Cond.classLink RX11 125 "ShameYards$Lamp" ∈ wsX11_isOfKind := by decide +kernel
set_option maxHeartbeats 4000000 in
set_option maxRecDepth 100000 in
theorem c_X11_isOfKind_k4 (l : Launch) (D : va_G) (cy : Nat → ClassId) (ad : Nat → Nat) (A : Nat → Prop) (G : Gd A ad nsX) (r : Nat) (m_r : r < 84) (k_r : kdX r = 4) (x1 : Int32) (M : Mm) (post : Int32 → Mm → Prop) (h : w_X11_isOfKind_k4 r x1 M post) : CI l yX11_isOfKind wsX11_isOfKind (rmL 2) D (tysC cy) A ad nsX (ceX ad cy) (ExX A ad) [.ref (ad r), .int x1] M (fun r M' => (r = 0 ∨ r = 1) ∧ post r M') := by
  refine Met_V (cc := cX11_isOfKind) (maxL := 2) (ret := (some .boolean)) (by decide) rfl G Lo_X ExX_ok (Nat.le_of_ble_eq_true rfl) rfl ?_
  intro p e s m args below meth c C hr hlk
  have C : Cx p s m args c cX11_isOfKind 2 RX11 wsX11_isOfKind D (tysC cy) A ad nsX (ceX ad cy) (ExX A ad) := C
  unfold w_X11_isOfKind_k4 at h
  refine V_iload_n C 1 dX11_isOfKind_0 rfl ?_
  by_cases q1 : x1 = 1
  · have h := h.1 q1
    refine V_tswIn C 32 dX11_isOfKind_1 (by rw [q1]; decide) (by rw [q1]; decide) (by rw [q1]; rfl) (by decide) ?_
    refine V_aload_n C 0 dX11_isOfKind_32 rfl ?_
    refine V_instNo (q := (RX4, TX4, 0)) C (nsX_mem m_r) ((ceX_k4 k_r) _) rfl m_X11_isOfKind_k4_k119 C.2.2.2.2.1.1.2.2.1.1 dX11_isOfKind_33 ?_
    exact V_zret C hr hlk (Or.inl rfl) dX11_isOfKind_36 h
  · have h := h.2 q1
    by_cases q2 : x1 = 2
    · have h := h.1 q2
      refine V_tswIn C 37 dX11_isOfKind_1 (by rw [q2]; decide) (by rw [q2]; decide) (by rw [q2]; rfl) (by decide) ?_
      refine V_aload_n C 0 dX11_isOfKind_37 rfl ?_
      refine V_instS (q := (RX4, TX4, 0)) C (nsX_mem m_r) ((ceX_k4 k_r) _) rfl rfl m_X11_isOfKind_k4_k121 dX11_isOfKind_38 ?_
      exact V_zret C hr hlk (Or.inr rfl) dX11_isOfKind_41 h
    · have h := h.2 q2
      by_cases q3 : x1 = 3
      · have h := h.1 q3
        refine V_tswIn C 42 dX11_isOfKind_1 (by rw [q3]; decide) (by rw [q3]; decide) (by rw [q3]; rfl) (by decide) ?_
        refine V_aload_n C 0 dX11_isOfKind_42 rfl ?_
        refine V_instNo (q := (RX4, TX4, 0)) C (nsX_mem m_r) ((ceX_k4 k_r) _) rfl m_X11_isOfKind_k4_k123 C.2.2.2.2.1.1.2.2.1.2.1 dX11_isOfKind_43 ?_
        exact V_zret C hr hlk (Or.inl rfl) dX11_isOfKind_46 h
      · have h := h.2 q3
        by_cases q4 : x1 = 4
        · have h := h.1 q4
          refine V_tswIn C 47 dX11_isOfKind_1 (by rw [q4]; decide) (by rw [q4]; decide) (by rw [q4]; rfl) (by decide) ?_
          refine V_aload_n C 0 dX11_isOfKind_47 rfl ?_
          refine V_instNo (q := (RX4, TX4, 0)) C (nsX_mem m_r) ((ceX_k4 k_r) _) rfl m_X11_isOfKind_k4_k125 C.2.2.2.2.1.1.2.2.1.2.2 dX11_isOfKind_48 ?_
          exact V_zret C hr hlk (Or.inl rfl) dX11_isOfKind_51 h
        · have h := h.2 q4
          refine V_tswOut C 52 dX11_isOfKind_1 (by have := lv_neT q1 (show (1 : Int32).toInt = 1 by decide); have := lv_neT q2 (show (2 : Int32).toInt = 2 by decide); have := lv_neT q3 (show (3 : Int32).toInt = 3 by decide); have := lv_neT q4 (show (4 : Int32).toInt = 4 by decide); omega) (by decide) ?_
          refine V_iconst (v := (1 : Int32)) C dX11_isOfKind_52 (by decide) ?_
          exact V_zret C hr hlk (Or.inr rfl) dX11_isOfKind_53 h
def w_X11_isOfKind_k9 (r : Nat) (x1 : Int32) (M : Mm) (post : Int32 → Mm → Prop) : Prop :=
  ((x1 = 1) → (post (0 : Int32) M)) ∧ ((¬ x1 = 1) → (((x1 = 2) → (post (0 : Int32) M)) ∧ ((¬ x1 = 2) → (((x1 = 3) → (post (1 : Int32) M)) ∧ ((¬ x1 = 3) → (((x1 = 4) → (post (0 : Int32) M)) ∧ ((¬ x1 = 4) → (post (1 : Int32) M))))))))
theorem m_X11_isOfKind_k9_k119 : Cond.classLink RX11 119 "ShameYards$Boy" ∈ wsX11_isOfKind := by decide +kernel
theorem m_X11_isOfKind_k9_k121 : Cond.classLink RX11 121 "ShameYards$Minister" ∈ wsX11_isOfKind := by decide +kernel
theorem m_X11_isOfKind_k9_k123 : Cond.classLink RX11 123 "ShameYards$Woman" ∈ wsX11_isOfKind := by decide +kernel
theorem m_X11_isOfKind_k9_k125 : Cond.classLink RX11 125 "ShameYards$Lamp" ∈ wsX11_isOfKind := by decide +kernel
set_option maxHeartbeats 4000000 in
set_option maxRecDepth 100000 in
theorem c_X11_isOfKind_k9 (l : Launch) (D : va_G) (cy : Nat → ClassId) (ad : Nat → Nat) (A : Nat → Prop) (G : Gd A ad nsX) (r : Nat) (m_r : r < 84) (k_r : kdX r = 9) (x1 : Int32) (M : Mm) (post : Int32 → Mm → Prop) (h : w_X11_isOfKind_k9 r x1 M post) : CI l yX11_isOfKind wsX11_isOfKind (rmL 2) D (tysC cy) A ad nsX (ceX ad cy) (ExX A ad) [.ref (ad r), .int x1] M (fun r M' => (r = 0 ∨ r = 1) ∧ post r M') := by
  refine Met_V (cc := cX11_isOfKind) (maxL := 2) (ret := (some .boolean)) (by decide) rfl G Lo_X ExX_ok (Nat.le_of_ble_eq_true rfl) rfl ?_
  intro p e s m args below meth c C hr hlk
  have C : Cx p s m args c cX11_isOfKind 2 RX11 wsX11_isOfKind D (tysC cy) A ad nsX (ceX ad cy) (ExX A ad) := C
  unfold w_X11_isOfKind_k9 at h
  refine V_iload_n C 1 dX11_isOfKind_0 rfl ?_
  by_cases q1 : x1 = 1
  · have h := h.1 q1
    refine V_tswIn C 32 dX11_isOfKind_1 (by rw [q1]; decide) (by rw [q1]; decide) (by rw [q1]; rfl) (by decide) ?_
    refine V_aload_n C 0 dX11_isOfKind_32 rfl ?_
    refine V_instNo (q := (RX10, TX10, 0)) C (nsX_mem m_r) ((ceX_k9 k_r) _) rfl m_X11_isOfKind_k9_k119 C.2.2.2.2.1.1.2.2.2.1.1 dX11_isOfKind_33 ?_
    exact V_zret C hr hlk (Or.inl rfl) dX11_isOfKind_36 h
  · have h := h.2 q1
    by_cases q2 : x1 = 2
    · have h := h.1 q2
      refine V_tswIn C 37 dX11_isOfKind_1 (by rw [q2]; decide) (by rw [q2]; decide) (by rw [q2]; rfl) (by decide) ?_
      refine V_aload_n C 0 dX11_isOfKind_37 rfl ?_
      refine V_instNo (q := (RX10, TX10, 0)) C (nsX_mem m_r) ((ceX_k9 k_r) _) rfl m_X11_isOfKind_k9_k121 C.2.2.2.2.1.1.2.2.2.1.2.1 dX11_isOfKind_38 ?_
      exact V_zret C hr hlk (Or.inl rfl) dX11_isOfKind_41 h
    · have h := h.2 q2
      by_cases q3 : x1 = 3
      · have h := h.1 q3
        refine V_tswIn C 42 dX11_isOfKind_1 (by rw [q3]; decide) (by rw [q3]; decide) (by rw [q3]; rfl) (by decide) ?_
        refine V_aload_n C 0 dX11_isOfKind_42 rfl ?_
        refine V_instS (q := (RX10, TX10, 0)) C (nsX_mem m_r) ((ceX_k9 k_r) _) rfl rfl m_X11_isOfKind_k9_k123 dX11_isOfKind_43 ?_
        exact V_zret C hr hlk (Or.inr rfl) dX11_isOfKind_46 h
      · have h := h.2 q3
        by_cases q4 : x1 = 4
        · have h := h.1 q4
          refine V_tswIn C 47 dX11_isOfKind_1 (by rw [q4]; decide) (by rw [q4]; decide) (by rw [q4]; rfl) (by decide) ?_
          refine V_aload_n C 0 dX11_isOfKind_47 rfl ?_
          refine V_instNo (q := (RX10, TX10, 0)) C (nsX_mem m_r) ((ceX_k9 k_r) _) rfl m_X11_isOfKind_k9_k125 C.2.2.2.2.1.1.2.2.2.1.2.2 dX11_isOfKind_48 ?_
          exact V_zret C hr hlk (Or.inl rfl) dX11_isOfKind_51 h
        · have h := h.2 q4
          refine V_tswOut C 52 dX11_isOfKind_1 (by have := lv_neT q1 (show (1 : Int32).toInt = 1 by decide); have := lv_neT q2 (show (2 : Int32).toInt = 2 by decide); have := lv_neT q3 (show (3 : Int32).toInt = 3 by decide); have := lv_neT q4 (show (4 : Int32).toInt = 4 by decide); omega) (by decide) ?_
          refine V_iconst (v := (1 : Int32)) C dX11_isOfKind_52 (by decide) ?_
          exact V_zret C hr hlk (Or.inr rfl) dX11_isOfKind_53 h
def w_X11_isOfKind_k3 (r : Nat) (x1 : Int32) (M : Mm) (post : Int32 → Mm → Prop) : Prop :=
  ((x1 = 1) → (post (0 : Int32) M)) ∧ ((¬ x1 = 1) → (((x1 = 2) → (post (1 : Int32) M)) ∧ ((¬ x1 = 2) → (((x1 = 3) → (post (0 : Int32) M)) ∧ ((¬ x1 = 3) → (((x1 = 4) → (post (1 : Int32) M)) ∧ ((¬ x1 = 4) → (post (1 : Int32) M))))))))
theorem m_X11_isOfKind_k3_k119 : Cond.classLink RX11 119 "ShameYards$Boy" ∈ wsX11_isOfKind := by decide +kernel
theorem m_X11_isOfKind_k3_k121 : Cond.classLink RX11 121 "ShameYards$Minister" ∈ wsX11_isOfKind := by decide +kernel
theorem m_X11_isOfKind_k3_k123 : Cond.classLink RX11 123 "ShameYards$Woman" ∈ wsX11_isOfKind := by decide +kernel
theorem m_X11_isOfKind_k3_k125 : Cond.classLink RX11 125 "ShameYards$Lamp" ∈ wsX11_isOfKind := by decide +kernel
set_option maxHeartbeats 4000000 in
set_option maxRecDepth 100000 in
theorem c_X11_isOfKind_k3 (l : Launch) (D : va_G) (cy : Nat → ClassId) (ad : Nat → Nat) (A : Nat → Prop) (G : Gd A ad nsX) (r : Nat) (m_r : r < 84) (k_r : kdX r = 3) (x1 : Int32) (M : Mm) (post : Int32 → Mm → Prop) (h : w_X11_isOfKind_k3 r x1 M post) : CI l yX11_isOfKind wsX11_isOfKind (rmL 2) D (tysC cy) A ad nsX (ceX ad cy) (ExX A ad) [.ref (ad r), .int x1] M (fun r M' => (r = 0 ∨ r = 1) ∧ post r M') := by
  refine Met_V (cc := cX11_isOfKind) (maxL := 2) (ret := (some .boolean)) (by decide) rfl G Lo_X ExX_ok (Nat.le_of_ble_eq_true rfl) rfl ?_
  intro p e s m args below meth c C hr hlk
  have C : Cx p s m args c cX11_isOfKind 2 RX11 wsX11_isOfKind D (tysC cy) A ad nsX (ceX ad cy) (ExX A ad) := C
  unfold w_X11_isOfKind_k3 at h
  refine V_iload_n C 1 dX11_isOfKind_0 rfl ?_
  by_cases q1 : x1 = 1
  · have h := h.1 q1
    refine V_tswIn C 32 dX11_isOfKind_1 (by rw [q1]; decide) (by rw [q1]; decide) (by rw [q1]; rfl) (by decide) ?_
    refine V_aload_n C 0 dX11_isOfKind_32 rfl ?_
    refine V_instNo (q := (RX3, TX3, 0)) C (nsX_mem m_r) ((ceX_k3 k_r) _) rfl m_X11_isOfKind_k3_k119 C.2.2.2.2.1.1.2.2.2.2.1.1 dX11_isOfKind_33 ?_
    exact V_zret C hr hlk (Or.inl rfl) dX11_isOfKind_36 h
  · have h := h.2 q1
    by_cases q2 : x1 = 2
    · have h := h.1 q2
      refine V_tswIn C 37 dX11_isOfKind_1 (by rw [q2]; decide) (by rw [q2]; decide) (by rw [q2]; rfl) (by decide) ?_
      refine V_aload_n C 0 dX11_isOfKind_37 rfl ?_
      refine V_instY (q := (RX3, TX3, 0)) C (nsX_mem m_r) ((ceX_k3 k_r) _) rfl m_X11_isOfKind_k3_k121 C.2.2.2.2.1.1.2.2.2.2.2 dX11_isOfKind_38 ?_
      exact V_zret C hr hlk (Or.inr rfl) dX11_isOfKind_41 h
    · have h := h.2 q2
      by_cases q3 : x1 = 3
      · have h := h.1 q3
        refine V_tswIn C 42 dX11_isOfKind_1 (by rw [q3]; decide) (by rw [q3]; decide) (by rw [q3]; rfl) (by decide) ?_
        refine V_aload_n C 0 dX11_isOfKind_42 rfl ?_
        refine V_instNo (q := (RX3, TX3, 0)) C (nsX_mem m_r) ((ceX_k3 k_r) _) rfl m_X11_isOfKind_k3_k123 C.2.2.2.2.1.1.2.2.2.2.1.2 dX11_isOfKind_43 ?_
        exact V_zret C hr hlk (Or.inl rfl) dX11_isOfKind_46 h
      · have h := h.2 q3
        by_cases q4 : x1 = 4
        · have h := h.1 q4
          refine V_tswIn C 47 dX11_isOfKind_1 (by rw [q4]; decide) (by rw [q4]; decide) (by rw [q4]; rfl) (by decide) ?_
          refine V_aload_n C 0 dX11_isOfKind_47 rfl ?_
          refine V_instS (q := (RX3, TX3, 0)) C (nsX_mem m_r) ((ceX_k3 k_r) _) rfl rfl m_X11_isOfKind_k3_k125 dX11_isOfKind_48 ?_
          exact V_zret C hr hlk (Or.inr rfl) dX11_isOfKind_51 h
        · have h := h.2 q4
          refine V_tswOut C 52 dX11_isOfKind_1 (by have := lv_neT q1 (show (1 : Int32).toInt = 1 by decide); have := lv_neT q2 (show (2 : Int32).toInt = 2 by decide); have := lv_neT q3 (show (3 : Int32).toInt = 3 by decide); have := lv_neT q4 (show (4 : Int32).toInt = 4 by decide); omega) (by decide) ?_
          refine V_iconst (v := (1 : Int32)) C dX11_isOfKind_52 (by decide) ?_
          exact V_zret C hr hlk (Or.inr rfl) dX11_isOfKind_53 h
def w_X11_isOfKind (r : Nat) (x1 : Int32) (M : Mm) (post : Int32 → Mm → Prop) : Prop := r < 84 ∧ ((kdX r = 1 ∧ w_X11_isOfKind_k1 r x1 M post) ∨ (kdX r = 0 ∧ w_X11_isOfKind_k0 r x1 M post) ∨ (kdX r = 4 ∧ w_X11_isOfKind_k4 r x1 M post) ∨ (kdX r = 9 ∧ w_X11_isOfKind_k9 r x1 M post) ∨ (kdX r = 3 ∧ w_X11_isOfKind_k3 r x1 M post))
theorem c_X11_isOfKind (l : Launch) (D : va_G) (cy : Nat → ClassId) (ad : Nat → Nat) (A : Nat → Prop) (G : Gd A ad nsX) (r : Nat) (x1 : Int32) (M : Mm) (post : Int32 → Mm → Prop) (h : w_X11_isOfKind r x1 M post) : CI l yX11_isOfKind wsX11_isOfKind (rmL 2) D (tysC cy) A ad nsX (ceX ad cy) (ExX A ad) [.ref (ad r), .int x1] M (fun r M' => (r = 0 ∨ r = 1) ∧ post r M') := by
  obtain ⟨hr, ⟨hk, h⟩ | ⟨hk, h⟩ | ⟨hk, h⟩ | ⟨hk, h⟩ | ⟨hk, h⟩⟩ := h
  · exact c_X11_isOfKind_k1 l D cy ad A G r hr hk x1 M post h
  · exact c_X11_isOfKind_k0 l D cy ad A G r hr hk x1 M post h
  · exact c_X11_isOfKind_k4 l D cy ad A G r hr hk x1 M post h
  · exact c_X11_isOfKind_k9 l D cy ad A G r hr hk x1 M post h
  · exact c_X11_isOfKind_k3 l D cy ad A G r hr hk x1 M post h
def w_X11_letter (x1 : Int32) (M : Mm) (post : Int32 → Mm → Prop) : Prop :=
  ((x1 < (32 : Int32)) → (post (-102 : Int32) M)) ∧ ((¬ x1 < (32 : Int32)) → (((x1 ≤ (126 : Int32)) → ((((M.1 1 1) < (52 : Int32)) → (w_X5_append x1 M (fun M5 => post (M5.1 1 1) M5))) ∧ ((¬ (M.1 1 1) < (52 : Int32)) → (post (-104 : Int32) M)))) ∧ ((¬ x1 ≤ (126 : Int32)) → (post (-102 : Int32) M))))
theorem iw_X11_letter_X11 : ∀ w ∈ u_ws RX11 TX11 9, w ∈ wsX11_letter := by decide +kernel
theorem iw_X11_letter_X5 : ∀ w ∈ u_ws RX5 TX5 2, w ∈ wsX11_letter := by decide +kernel
theorem m_X11_letter_f10 : Cond.fieldLink RX11 10 "ShameYards" "page" "LShameYards$Page;" ∈ wsX11_letter := by decide +kernel
theorem m_X11_letter_f47 : Cond.fieldLink RX11 47 "ShameYards$Page" "size" "I" ∈ wsX11_letter := by decide +kernel
set_option maxHeartbeats 4000000 in
set_option maxRecDepth 100000 in
theorem c_X11_letter (l : Launch) (D : va_G) (cy : Nat → ClassId) (ad : Nat → Nat) (A : Nat → Prop) (G : Gd A ad nsX)   (x1 : Int32) (M : Mm) (post : Int32 → Mm → Prop) (h : w_X11_letter x1 M post) : CI l yX11_letter wsX11_letter (rmL 3) D (tysC cy) A ad nsX (ceX ad cy) (ExX A ad) [.ref (ad 0), .int x1] M post := by
  refine Met_V (cc := cX11_letter) (maxL := 2) (ret := (some .int)) (by decide) rfl G Lo_X ExX_ok (Nat.le_of_ble_eq_true rfl) rfl ?_
  intro p e s m args below meth c C hr hlk
  have C : Cx p s m args c cX11_letter 2 RX11 wsX11_letter D (tysC cy) A ad nsX (ceX ad cy) (ExX A ad) := C
  unfold w_X11_letter at h
  refine V_iload_n C 1 dX11_letter_0 rfl ?_
  refine V_bipush (v := (32 : Int32)) C dX11_letter_1 (by decide) ?_
  refine V_icmp_lt C 12 dX11_letter_3 (by decide) (fun q1 => ?_) (fun q1 => ?_)
  · have h := h.1 q1
    refine V_bipush (v := (-102 : Int32)) C dX11_letter_12 (by decide) ?_
    exact V_iret C hr hlk dX11_letter_14 h
  · have h := h.2 q1
    refine V_iload_n C 1 dX11_letter_6 rfl ?_
    refine V_bipush (v := (126 : Int32)) C dX11_letter_7 (by decide) ?_
    refine V_icmp_le C 15 dX11_letter_9 (by decide) (fun q2 => ?_) (fun q2 => ?_)
    · have h := h.1 q2
      refine V_aload_n C 0 dX11_letter_15 rfl ?_
      refine V_get (k0 := 0) (Cn := RX11) (T := TX11) (N := 9) C (nsX_mem (by decide)) rfl iw_X11_letter_X11 (by decide) rfl m_X11_letter_f10 (ceX_0 _) rfl dX11_letter_16 ?_
      refine V_get (k0 := 1) (Cn := RX5) (T := TX5) (N := 2) C (nsX_mem (by decide)) rfl iw_X11_letter_X5 (by decide) rfl m_X11_letter_f47 (ceX_1 _) rfl dX11_letter_19 ?_
      refine V_bipush (v := (52 : Int32)) C dX11_letter_22 (by decide) ?_
      refine V_icmp_lt C 30 dX11_letter_24 (by decide) (fun q3 => ?_) (fun q3 => ?_)
      · have h := h.1 q3
        refine V_aload_n C 0 dX11_letter_30 rfl ?_
        refine V_get (k0 := 0) (Cn := RX11) (T := TX11) (N := 9) C (nsX_mem (by decide)) rfl iw_X11_letter_X11 (by decide) rfl m_X11_letter_f10 (ceX_0 _) rfl dX11_letter_31 ?_
        refine V_iload_n C 1 dX11_letter_34 rfl ?_
        refine V_callVv (q := (RX5, TX5, 2)) (rest := []) C (nsX_mem (by decide)) (ceX_1 _) rfl (c_X5_append l D cy ad A G x1 M _ h) (cwV 1 C.1.2.2.2.2 gX11_letter_X5_append rfl rfl rfl (by decide +kernel) ⟨by decide, by decide⟩) rfl rfl (Nat.le_of_ble_eq_true rfl) dX11_letter_35 (fun M5 h => ?_)
        refine V_aload_n C 0 dX11_letter_38 rfl ?_
        refine V_get (k0 := 0) (Cn := RX11) (T := TX11) (N := 9) C (nsX_mem (by decide)) rfl iw_X11_letter_X11 (by decide) rfl m_X11_letter_f10 (ceX_0 _) rfl dX11_letter_39 ?_
        refine V_get (k0 := 1) (Cn := RX5) (T := TX5) (N := 2) C (nsX_mem (by decide)) rfl iw_X11_letter_X5 (by decide) rfl m_X11_letter_f47 (ceX_1 _) rfl dX11_letter_42 ?_
        exact V_iret C hr hlk dX11_letter_45 h
      · have h := h.2 q3
        refine V_bipush (v := (-104 : Int32)) C dX11_letter_27 (by decide) ?_
        exact V_iret C hr hlk dX11_letter_29 h
    · have h := h.2 q2
      refine V_bipush (v := (-102 : Int32)) C dX11_letter_12 (by decide) ?_
      exact V_iret C hr hlk dX11_letter_14 h
def w_X11_blank  (M : Mm) (post : Int32 → Mm → Prop) : Prop :=
  ∀ M1 : Mm, M1 = wI M 1 (upd (M.1 1) 1 (0 : Int32)) → (post (M.1 1 1) M1)
theorem iw_X11_blank_X11 : ∀ w ∈ u_ws RX11 TX11 9, w ∈ wsX11_blank := by decide +kernel
theorem iw_X11_blank_X5 : ∀ w ∈ u_ws RX5 TX5 2, w ∈ wsX11_blank := by decide +kernel
theorem m_X11_blank_f10 : Cond.fieldLink RX11 10 "ShameYards" "page" "LShameYards$Page;" ∈ wsX11_blank := by decide +kernel
theorem m_X11_blank_f47 : Cond.fieldLink RX11 47 "ShameYards$Page" "size" "I" ∈ wsX11_blank := by decide +kernel
set_option maxHeartbeats 4000000 in
set_option maxRecDepth 100000 in
theorem c_X11_blank (l : Launch) (D : va_G) (cy : Nat → ClassId) (ad : Nat → Nat) (A : Nat → Prop) (G : Gd A ad nsX)    (M : Mm) (post : Int32 → Mm → Prop) (h : w_X11_blank  M post) : CI l yX11_blank wsX11_blank (rmL 2) D (tysC cy) A ad nsX (ceX ad cy) (ExX A ad) [.ref (ad 0)] M post := by
  refine Met_V (cc := cX11_blank) (maxL := 2) (ret := (some .int)) (by decide) rfl G Lo_X ExX_ok (Nat.le_of_ble_eq_true rfl) rfl ?_
  intro p e s m args below meth c C hr hlk
  have C : Cx p s m args c cX11_blank 2 RX11 wsX11_blank D (tysC cy) A ad nsX (ceX ad cy) (ExX A ad) := C
  unfold w_X11_blank at h
  refine V_aload_n C 0 dX11_blank_0 rfl ?_
  refine V_get (k0 := 0) (Cn := RX11) (T := TX11) (N := 9) C (nsX_mem (by decide)) rfl iw_X11_blank_X11 (by decide) rfl m_X11_blank_f10 (ceX_0 _) rfl dX11_blank_1 ?_
  refine V_get (k0 := 1) (Cn := RX5) (T := TX5) (N := 2) C (nsX_mem (by decide)) rfl iw_X11_blank_X5 (by decide) rfl m_X11_blank_f47 (ceX_1 _) rfl dX11_blank_4 ?_
  refine V_istore_n (lv' := [(1, .int (M.1 1 1)), (0, .ref (ad 0))]) C dX11_blank_7 rfl (by decide) rfl ?_
  refine V_aload_n C 1 dX11_blank_8 rfl ?_
  refine V_get (k0 := 0) (Cn := RX11) (T := TX11) (N := 9) C (nsX_mem (by decide)) rfl iw_X11_blank_X11 (by decide) rfl m_X11_blank_f10 (ceX_0 _) rfl dX11_blank_9 ?_
  refine V_iconst (v := (0 : Int32)) C dX11_blank_12 (by decide) ?_
  refine V_putI (k0 := 1) (Cn := RX5) (T := TX5) (N := 2) C (nsX_mem (by decide)) rfl iw_X11_blank_X5 (by decide) rfl m_X11_blank_f47 tyX5_ok nmX5 rfl (show _ = some FieldType.int by decide +kernel) rfl rfl (Nat.le_of_ble_eq_true rfl) (ceX_1 _) (stX1_1  _ _) dX11_blank_13 (fun M1 e2 => ?_)
  have h := h M1 e2
  refine V_iload_n C 0 dX11_blank_16 rfl ?_
  exact V_iret C hr hlk dX11_blank_17 h
def w_X11_fault  (M : Mm) (post : Int32 → Mm → Prop) : Prop :=
  w_X5_firstFault  M (fun r1 M2 => post r1 M2)
theorem iw_X11_fault_X11 : ∀ w ∈ u_ws RX11 TX11 9, w ∈ wsX11_fault := by decide +kernel
theorem m_X11_fault_f10 : Cond.fieldLink RX11 10 "ShameYards" "page" "LShameYards$Page;" ∈ wsX11_fault := by decide +kernel
set_option maxHeartbeats 4000000 in
set_option maxRecDepth 100000 in
theorem c_X11_fault (l : Launch) (D : va_G) (cy : Nat → ClassId) (ad : Nat → Nat) (A : Nat → Prop) (G : Gd A ad nsX)    (M : Mm) (post : Int32 → Mm → Prop) (h : w_X11_fault  M post) : CI l yX11_fault wsX11_fault (rmL 16) D (tysC cy) A ad nsX (ceX ad cy) (ExX A ad) [.ref (ad 0)] M post := by
  refine Met_V (cc := cX11_fault) (maxL := 1) (ret := (some .int)) (by decide) rfl G Lo_X ExX_ok (Nat.le_of_ble_eq_true rfl) rfl ?_
  intro p e s m args below meth c C hr hlk
  have C : Cx p s m args c cX11_fault 1 RX11 wsX11_fault D (tysC cy) A ad nsX (ceX ad cy) (ExX A ad) := C
  unfold w_X11_fault at h
  refine V_aload_n C 0 dX11_fault_0 rfl ?_
  refine V_get (k0 := 0) (Cn := RX11) (T := TX11) (N := 9) C (nsX_mem (by decide)) rfl iw_X11_fault_X11 (by decide) rfl m_X11_fault_f10 (ceX_0 _) rfl dX11_fault_1 ?_
  refine V_callVi (q := (RX5, TX5, 2)) (rest := []) C (nsX_mem (by decide)) (ceX_1 _) rfl (c_X5_firstFault l D cy ad A G  M _ h) (cwV 0 C.1.2.2.2.2 gX11_fault_X5_firstFault rfl rfl rfl (by decide +kernel) ⟨by decide, by decide⟩) rfl rfl (Nat.le_of_ble_eq_true rfl) dX11_fault_4 (fun r1 M2 h => ?_)
  exact V_iret C hr hlk dX11_fault_7 h
def w_X11_ministry  (M : Mm) (post : Int32 → Mm → Prop) : Prop :=
  w_X5_isWhole  M (fun r1 M2 => ((¬ r1 = 0) → (w_X2_settle 3 M2 (fun M6 => ∀ M8 : Mm, M8 = wI M6 1 (upd (M6.1 1) 1 (0 : Int32)) → (∀ M10 : Mm, M10 = wI M8 0 (upd (M8.1 0) 6 (0 : Int32)) → (∀ M12 : Mm, M12 = wI M10 0 (upd (M10.1 0) 7 ((M10.1 0 7) + (1 : Int32))) → (post (M12.1 3 3) M12)))))) ∧ ((r1 = 0) → (post (-103 : Int32) M2)))
theorem iw_X11_ministry_X11 : ∀ w ∈ u_ws RX11 TX11 9, w ∈ wsX11_ministry := by decide +kernel
theorem iw_X11_ministry_X5 : ∀ w ∈ u_ws RX5 TX5 2, w ∈ wsX11_ministry := by decide +kernel
theorem iw_X11_ministry_X2 : ∀ w ∈ u_ws RX2 TX2 18, w ∈ wsX11_ministry := by decide +kernel
theorem m_X11_ministry_f10 : Cond.fieldLink RX11 10 "ShameYards" "page" "LShameYards$Page;" ∈ wsX11_ministry := by decide +kernel
theorem m_X11_ministry_f19 : Cond.fieldLink RX11 19 "ShameYards" "now" "LShameYards$House;" ∈ wsX11_ministry := by decide +kernel
theorem m_X11_ministry_f47 : Cond.fieldLink RX11 47 "ShameYards$Page" "size" "I" ∈ wsX11_ministry := by decide +kernel
theorem m_X11_ministry_f67 : Cond.fieldLink RX11 67 "ShameYards" "imageStands" "Z" ∈ wsX11_ministry := by decide +kernel
theorem m_X11_ministry_f71 : Cond.fieldLink RX11 71 "ShameYards" "reads" "I" ∈ wsX11_ministry := by decide +kernel
theorem m_X11_ministry_f74 : Cond.fieldLink RX11 74 "ShameYards$House" "peopleCount" "I" ∈ wsX11_ministry := by decide +kernel
set_option maxHeartbeats 4000000 in
set_option maxRecDepth 100000 in
theorem c_X11_ministry (l : Launch) (D : va_G) (cy : Nat → ClassId) (ad : Nat → Nat) (A : Nat → Prop) (G : Gd A ad nsX)    (M : Mm) (post : Int32 → Mm → Prop) (h : w_X11_ministry  M post) : CI l yX11_ministry wsX11_ministry (rmL 17) D (tysC cy) A ad nsX (ceX ad cy) (ExX A ad) [.ref (ad 0)] M post := by
  refine Met_V (cc := cX11_ministry) (maxL := 1) (ret := (some .int)) (by decide) rfl G Lo_X ExX_ok (Nat.le_of_ble_eq_true rfl) rfl ?_
  intro p e s m args below meth c C hr hlk
  have C : Cx p s m args c cX11_ministry 1 RX11 wsX11_ministry D (tysC cy) A ad nsX (ceX ad cy) (ExX A ad) := C
  unfold w_X11_ministry at h
  refine V_aload_n C 0 dX11_ministry_0 rfl ?_
  refine V_get (k0 := 0) (Cn := RX11) (T := TX11) (N := 9) C (nsX_mem (by decide)) rfl iw_X11_ministry_X11 (by decide) rfl m_X11_ministry_f10 (ceX_0 _) rfl dX11_ministry_1 ?_
  refine V_callVi (q := (RX5, TX5, 2)) (rest := []) C (nsX_mem (by decide)) (ceX_1 _) rfl (c_X5_isWhole l D cy ad A G  M _ h) (cwV 0 C.1.2.2.2.2 gX11_ministry_X5_isWhole rfl rfl rfl (by decide +kernel) ⟨by decide, by decide⟩) rfl rfl (Nat.le_of_ble_eq_true rfl) dX11_ministry_4 (fun r1 M2 h => ?_)
  obtain ⟨z3, h⟩ := h
  refine V_if_ne C 13 dX11_ministry_7 (by decide) (fun q4 => ?_) (fun q4 => ?_)
  · have h := h.1 q4
    refine V_aload_n C 0 dX11_ministry_13 rfl ?_
    refine V_get (k0 := 1) (Cn := RX11) (T := TX11) (N := 9) C (nsX_mem (by decide)) rfl iw_X11_ministry_X11 (by decide) rfl m_X11_ministry_f19 (ceX_0 _) rfl dX11_ministry_14 ?_
    refine V_aload_n C 0 dX11_ministry_17 rfl ?_
    refine V_get (k0 := 0) (Cn := RX11) (T := TX11) (N := 9) C (nsX_mem (by decide)) rfl iw_X11_ministry_X11 (by decide) rfl m_X11_ministry_f10 (ceX_0 _) rfl dX11_ministry_18 ?_
    refine V_callVv (q := (RX2, TX2, 18)) (rest := []) C (nsX_mem (by decide)) (ceX_3 _) rfl (c_X2_settle l D cy ad A G 3 (by decide) M2 _ h) (cwV 1 C.1.2.2.2.2 gX11_ministry_X2_settle rfl rfl rfl (by decide +kernel) ⟨by decide, by decide⟩) rfl rfl (Nat.le_of_ble_eq_true rfl) dX11_ministry_21 (fun M6 h => ?_)
    refine V_aload_n C 0 dX11_ministry_24 rfl ?_
    refine V_get (k0 := 0) (Cn := RX11) (T := TX11) (N := 9) C (nsX_mem (by decide)) rfl iw_X11_ministry_X11 (by decide) rfl m_X11_ministry_f10 (ceX_0 _) rfl dX11_ministry_25 ?_
    refine V_iconst (v := (0 : Int32)) C dX11_ministry_28 (by decide) ?_
    refine V_putI (k0 := 1) (Cn := RX5) (T := TX5) (N := 2) C (nsX_mem (by decide)) rfl iw_X11_ministry_X5 (by decide) rfl m_X11_ministry_f47 tyX5_ok nmX5 rfl (show _ = some FieldType.int by decide +kernel) rfl rfl (Nat.le_of_ble_eq_true rfl) (ceX_1 _) (stX1_1  _ _) dX11_ministry_29 (fun M8 e9 => ?_)
    have h := h M8 e9
    refine V_aload_n C 0 dX11_ministry_32 rfl ?_
    refine V_iconst (v := (0 : Int32)) C dX11_ministry_33 (by decide) ?_
    refine V_putI (k0 := 6) (Cn := RX11) (T := TX11) (N := 9) C (nsX_mem (by decide)) rfl iw_X11_ministry_X11 (by decide) rfl m_X11_ministry_f67 tyX11_ok nmX11 rfl (show _ = some FieldType.boolean by decide +kernel) (nz_n (Or.inl rfl)) (nz_f (Or.inl rfl)) (Nat.le_of_ble_eq_true rfl) (ceX_0 _) (stX0_6  _ _) dX11_ministry_34 (fun M10 e11 => ?_)
    have h := h M10 e11
    refine V_aload_n C 0 dX11_ministry_37 rfl ?_
    refine V_dup C dX11_ministry_38 rfl ?_
    refine V_get (k0 := 7) (Cn := RX11) (T := TX11) (N := 9) C (nsX_mem (by decide)) rfl iw_X11_ministry_X11 (by decide) rfl m_X11_ministry_f71 (ceX_0 _) rfl dX11_ministry_39 ?_
    refine V_iconst (v := (1 : Int32)) C dX11_ministry_42 (by decide) ?_
    refine V_iadd C dX11_ministry_43 ?_
    refine V_putI (k0 := 7) (Cn := RX11) (T := TX11) (N := 9) C (nsX_mem (by decide)) rfl iw_X11_ministry_X11 (by decide) rfl m_X11_ministry_f71 tyX11_ok nmX11 rfl (show _ = some FieldType.int by decide +kernel) rfl rfl (Nat.le_of_ble_eq_true rfl) (ceX_0 _) (stX0_7  _ _) dX11_ministry_44 (fun M12 e13 => ?_)
    have h := h M12 e13
    refine V_aload_n C 0 dX11_ministry_47 rfl ?_
    refine V_get (k0 := 1) (Cn := RX11) (T := TX11) (N := 9) C (nsX_mem (by decide)) rfl iw_X11_ministry_X11 (by decide) rfl m_X11_ministry_f19 (ceX_0 _) rfl dX11_ministry_48 ?_
    refine V_get (k0 := 3) (Cn := RX2) (T := TX2) (N := 18) C (nsX_mem (by decide)) rfl iw_X11_ministry_X2 (by decide) rfl m_X11_ministry_f74 (ceX_3 _) rfl dX11_ministry_51 ?_
    exact V_iret C hr hlk dX11_ministry_54 h
  · have h := h.2 q4
    refine V_bipush (v := (-103 : Int32)) C dX11_ministry_10 (by decide) ?_
    exact V_iret C hr hlk dX11_ministry_12 h
def w_X11_tellPerson (x1 : Int32) (x2 : Int32) (M : Mm) (post : Int32 → Mm → Prop) : Prop :=
  ((x2 = 0) → ((vp_in x1 5) ∧ (post (M.1 13 x1.toNatClampNeg) M))) ∧ ((¬ x2 = 0) → (((x2 = 1) → ((vp_in x1 5) ∧ (post (M.1 14 x1.toNatClampNeg) M))) ∧ ((¬ x2 = 1) → (((x2 = 2) → ((vp_in x1 5) ∧ (post (M.1 15 x1.toNatClampNeg) M))) ∧ ((¬ x2 = 2) → (((x2 = 3) → ((vp_in x1 5) ∧ (post (M.1 16 x1.toNatClampNeg) M))) ∧ ((¬ x2 = 3) → (((x2 = 4) → ((vp_in x1 5) ∧ (post (M.1 17 x1.toNatClampNeg) M))) ∧ ((¬ x2 = 4) → (((x2 = 5) → (w_X7_possibleLies x1 M (fun r12 M13 => post r12 M13))) ∧ ((¬ x2 = 5) → (((x2 = 6) → (w_X7_possibleLies x1 M (fun r16 M17 => w_X7_bestQuestion x1 r16 M17 (fun r19 M20 => post r19 M20)))) ∧ ((¬ x2 = 6) → (post (-102 : Int32) M))))))))))))))
theorem iw_X11_tellPerson_X11 : ∀ w ∈ u_ws RX11 TX11 9, w ∈ wsX11_tellPerson := by decide +kernel
theorem iw_X11_tellPerson_X2 : ∀ w ∈ u_ws RX2 TX2 18, w ∈ wsX11_tellPerson := by decide +kernel
theorem m_X11_tellPerson_f19 : Cond.fieldLink RX11 19 "ShameYards" "now" "LShameYards$House;" ∈ wsX11_tellPerson := by decide +kernel
theorem m_X11_tellPerson_f85 : Cond.fieldLink RX11 85 "ShameYards$House" "kinds" "[I" ∈ wsX11_tellPerson := by decide +kernel
theorem m_X11_tellPerson_f89 : Cond.fieldLink RX11 89 "ShameYards$House" "deeds" "[I" ∈ wsX11_tellPerson := by decide +kernel
theorem m_X11_tellPerson_f92 : Cond.fieldLink RX11 92 "ShameYards$House" "lies" "[I" ∈ wsX11_tellPerson := by decide +kernel
theorem m_X11_tellPerson_f95 : Cond.fieldLink RX11 95 "ShameYards$House" "places" "[I" ∈ wsX11_tellPerson := by decide +kernel
theorem m_X11_tellPerson_f98 : Cond.fieldLink RX11 98 "ShameYards$House" "taken" "[I" ∈ wsX11_tellPerson := by decide +kernel
set_option maxHeartbeats 4000000 in
set_option maxRecDepth 100000 in
theorem c_X11_tellPerson (l : Launch) (D : va_G) (cy : Nat → ClassId) (ad : Nat → Nat) (A : Nat → Prop) (G : Gd A ad nsX)   (x1 : Int32) (x2 : Int32) (M : Mm) (post : Int32 → Mm → Prop) (h : w_X11_tellPerson x1 x2 M post) : CI l yX11_tellPerson wsX11_tellPerson (rmL 7) D (tysC cy) A ad nsX (ceX ad cy) (ExX A ad) [.ref (ad 0), .int x1, .int x2] M post := by
  refine Met_V (cc := cX11_tellPerson) (maxL := 3) (ret := (some .int)) (by decide) rfl G Lo_X ExX_ok (Nat.le_of_ble_eq_true rfl) rfl ?_
  intro p e s m args below meth c C hr hlk
  have C : Cx p s m args c cX11_tellPerson 3 RX11 wsX11_tellPerson D (tysC cy) A ad nsX (ceX ad cy) (ExX A ad) := C
  unfold w_X11_tellPerson at h
  refine V_iload_n C 2 dX11_tellPerson_0 rfl ?_
  by_cases q1 : x2 = 0
  · have h := h.1 q1
    refine V_tswIn C 44 dX11_tellPerson_1 (by rw [q1]; decide) (by rw [q1]; decide) (by rw [q1]; rfl) (by decide) ?_
    refine V_aload_n C 0 dX11_tellPerson_44 rfl ?_
    refine V_get (k0 := 1) (Cn := RX11) (T := TX11) (N := 9) C (nsX_mem (by decide)) rfl iw_X11_tellPerson_X11 (by decide) rfl m_X11_tellPerson_f19 (ceX_0 _) rfl dX11_tellPerson_45 ?_
    refine V_get (k0 := 7) (Cn := RX2) (T := TX2) (N := 18) C (nsX_mem (by decide)) rfl iw_X11_tellPerson_X2 (by decide) rfl m_X11_tellPerson_f85 (ceX_3 _) rfl dX11_tellPerson_48 ?_
    refine V_iload_n C 1 dX11_tellPerson_51 rfl ?_
    have g2 := h.1
    have h := h.2
    refine V_iald (t0 := 1) (L := 5) C (nsX_mem (by decide)) (fun _ => rfl) rfl g2 dX11_tellPerson_52 ?_
    exact V_iret C hr hlk dX11_tellPerson_53 h
  · have h := h.2 q1
    by_cases q3 : x2 = 1
    · have h := h.1 q3
      refine V_tswIn C 54 dX11_tellPerson_1 (by rw [q3]; decide) (by rw [q3]; decide) (by rw [q3]; rfl) (by decide) ?_
      refine V_aload_n C 0 dX11_tellPerson_54 rfl ?_
      refine V_get (k0 := 1) (Cn := RX11) (T := TX11) (N := 9) C (nsX_mem (by decide)) rfl iw_X11_tellPerson_X11 (by decide) rfl m_X11_tellPerson_f19 (ceX_0 _) rfl dX11_tellPerson_55 ?_
      refine V_get (k0 := 8) (Cn := RX2) (T := TX2) (N := 18) C (nsX_mem (by decide)) rfl iw_X11_tellPerson_X2 (by decide) rfl m_X11_tellPerson_f89 (ceX_3 _) rfl dX11_tellPerson_58 ?_
      refine V_iload_n C 1 dX11_tellPerson_61 rfl ?_
      have g4 := h.1
      have h := h.2
      refine V_iald (t0 := 1) (L := 5) C (nsX_mem (by decide)) (fun _ => rfl) rfl g4 dX11_tellPerson_62 ?_
      exact V_iret C hr hlk dX11_tellPerson_63 h
    · have h := h.2 q3
      by_cases q5 : x2 = 2
      · have h := h.1 q5
        refine V_tswIn C 64 dX11_tellPerson_1 (by rw [q5]; decide) (by rw [q5]; decide) (by rw [q5]; rfl) (by decide) ?_
        refine V_aload_n C 0 dX11_tellPerson_64 rfl ?_
        refine V_get (k0 := 1) (Cn := RX11) (T := TX11) (N := 9) C (nsX_mem (by decide)) rfl iw_X11_tellPerson_X11 (by decide) rfl m_X11_tellPerson_f19 (ceX_0 _) rfl dX11_tellPerson_65 ?_
        refine V_get (k0 := 9) (Cn := RX2) (T := TX2) (N := 18) C (nsX_mem (by decide)) rfl iw_X11_tellPerson_X2 (by decide) rfl m_X11_tellPerson_f92 (ceX_3 _) rfl dX11_tellPerson_68 ?_
        refine V_iload_n C 1 dX11_tellPerson_71 rfl ?_
        have g6 := h.1
        have h := h.2
        refine V_iald (t0 := 1) (L := 5) C (nsX_mem (by decide)) (fun _ => rfl) rfl g6 dX11_tellPerson_72 ?_
        exact V_iret C hr hlk dX11_tellPerson_73 h
      · have h := h.2 q5
        by_cases q7 : x2 = 3
        · have h := h.1 q7
          refine V_tswIn C 74 dX11_tellPerson_1 (by rw [q7]; decide) (by rw [q7]; decide) (by rw [q7]; rfl) (by decide) ?_
          refine V_aload_n C 0 dX11_tellPerson_74 rfl ?_
          refine V_get (k0 := 1) (Cn := RX11) (T := TX11) (N := 9) C (nsX_mem (by decide)) rfl iw_X11_tellPerson_X11 (by decide) rfl m_X11_tellPerson_f19 (ceX_0 _) rfl dX11_tellPerson_75 ?_
          refine V_get (k0 := 10) (Cn := RX2) (T := TX2) (N := 18) C (nsX_mem (by decide)) rfl iw_X11_tellPerson_X2 (by decide) rfl m_X11_tellPerson_f95 (ceX_3 _) rfl dX11_tellPerson_78 ?_
          refine V_iload_n C 1 dX11_tellPerson_81 rfl ?_
          have g8 := h.1
          have h := h.2
          refine V_iald (t0 := 1) (L := 5) C (nsX_mem (by decide)) (fun _ => rfl) rfl g8 dX11_tellPerson_82 ?_
          exact V_iret C hr hlk dX11_tellPerson_83 h
        · have h := h.2 q7
          by_cases q9 : x2 = 4
          · have h := h.1 q9
            refine V_tswIn C 84 dX11_tellPerson_1 (by rw [q9]; decide) (by rw [q9]; decide) (by rw [q9]; rfl) (by decide) ?_
            refine V_aload_n C 0 dX11_tellPerson_84 rfl ?_
            refine V_get (k0 := 1) (Cn := RX11) (T := TX11) (N := 9) C (nsX_mem (by decide)) rfl iw_X11_tellPerson_X11 (by decide) rfl m_X11_tellPerson_f19 (ceX_0 _) rfl dX11_tellPerson_85 ?_
            refine V_get (k0 := 11) (Cn := RX2) (T := TX2) (N := 18) C (nsX_mem (by decide)) rfl iw_X11_tellPerson_X2 (by decide) rfl m_X11_tellPerson_f98 (ceX_3 _) rfl dX11_tellPerson_88 ?_
            refine V_iload_n C 1 dX11_tellPerson_91 rfl ?_
            have g10 := h.1
            have h := h.2
            refine V_iald (t0 := 1) (L := 5) C (nsX_mem (by decide)) (fun _ => rfl) rfl g10 dX11_tellPerson_92 ?_
            exact V_iret C hr hlk dX11_tellPerson_93 h
          · have h := h.2 q9
            by_cases q11 : x2 = 5
            · have h := h.1 q11
              refine V_tswIn C 94 dX11_tellPerson_1 (by rw [q11]; decide) (by rw [q11]; decide) (by rw [q11]; rfl) (by decide) ?_
              refine V_aload_n C 0 dX11_tellPerson_94 rfl ?_
              refine V_get (k0 := 1) (Cn := RX11) (T := TX11) (N := 9) C (nsX_mem (by decide)) rfl iw_X11_tellPerson_X11 (by decide) rfl m_X11_tellPerson_f19 (ceX_0 _) rfl dX11_tellPerson_95 ?_
              refine V_iload_n C 1 dX11_tellPerson_98 rfl ?_
              refine V_callSi (rest := []) C (c_X7_possibleLies l D cy ad A G x1 M _ h) (va_cwS 2 C.1.2.2.2.2 gX11_tellPerson_X7_possibleLies rfl rfl rfl (by decide +kernel) ⟨by decide, by decide⟩) rfl rfl (Nat.le_of_ble_eq_true rfl) dX11_tellPerson_99 (fun r12 M13 h => ?_)
              exact V_iret C hr hlk dX11_tellPerson_102 h
            · have h := h.2 q11
              by_cases q15 : x2 = 6
              · have h := h.1 q15
                refine V_tswIn C 103 dX11_tellPerson_1 (by rw [q15]; decide) (by rw [q15]; decide) (by rw [q15]; rfl) (by decide) ?_
                refine V_aload_n C 0 dX11_tellPerson_103 rfl ?_
                refine V_get (k0 := 1) (Cn := RX11) (T := TX11) (N := 9) C (nsX_mem (by decide)) rfl iw_X11_tellPerson_X11 (by decide) rfl m_X11_tellPerson_f19 (ceX_0 _) rfl dX11_tellPerson_104 ?_
                refine V_iload_n C 1 dX11_tellPerson_107 rfl ?_
                refine V_aload_n C 0 dX11_tellPerson_108 rfl ?_
                refine V_get (k0 := 1) (Cn := RX11) (T := TX11) (N := 9) C (nsX_mem (by decide)) rfl iw_X11_tellPerson_X11 (by decide) rfl m_X11_tellPerson_f19 (ceX_0 _) rfl dX11_tellPerson_109 ?_
                refine V_iload_n C 1 dX11_tellPerson_112 rfl ?_
                refine V_callSi (rest := [.int x1, .ref (ad 3)]) C (c_X7_possibleLies l D cy ad A G x1 M _ h) (va_cwS 2 C.1.2.2.2.2 gX11_tellPerson_X7_possibleLies rfl rfl rfl (by decide +kernel) ⟨by decide, by decide⟩) rfl rfl (Nat.le_of_ble_eq_true rfl) dX11_tellPerson_113 (fun r16 M17 h => ?_)
                refine V_callSi (rest := []) C (c_X7_bestQuestion l D cy ad A G x1 r16 M17 _ h) (va_cwS 3 C.1.2.2.2.2 gX11_tellPerson_X7_bestQuestion rfl rfl rfl (by decide +kernel) ⟨by decide, by decide⟩) rfl rfl (Nat.le_of_ble_eq_true rfl) dX11_tellPerson_116 (fun r19 M20 h => ?_)
                exact V_iret C hr hlk dX11_tellPerson_119 h
              · have h := h.2 q15
                refine V_tswOut C 120 dX11_tellPerson_1 (by have := lv_neT q1 (show (0 : Int32).toInt = 0 by decide); have := lv_neT q3 (show (1 : Int32).toInt = 1 by decide); have := lv_neT q5 (show (2 : Int32).toInt = 2 by decide); have := lv_neT q7 (show (3 : Int32).toInt = 3 by decide); have := lv_neT q9 (show (4 : Int32).toInt = 4 by decide); have := lv_neT q11 (show (5 : Int32).toInt = 5 by decide); have := lv_neT q15 (show (6 : Int32).toInt = 6 by decide); omega) (by decide) ?_
                refine V_bipush (v := (-102 : Int32)) C dX11_tellPerson_120 (by decide) ?_
                exact V_iret C hr hlk dX11_tellPerson_122 h
def w_X11_person (x1 : Int32) (x2 : Int32) (M : Mm) (post : Int32 → Mm → Prop) : Prop :=
  w_X2_hasPerson 3 x1 M (fun r1 M2 => ((¬ r1 = 0) → (w_X11_tellPerson x1 x2 M2 (fun r5 M6 => post r5 M6))) ∧ ((r1 = 0) → (post (-101 : Int32) M2)))
theorem iw_X11_person_X11 : ∀ w ∈ u_ws RX11 TX11 9, w ∈ wsX11_person := by decide +kernel
theorem m_X11_person_f19 : Cond.fieldLink RX11 19 "ShameYards" "now" "LShameYards$House;" ∈ wsX11_person := by decide +kernel
set_option maxHeartbeats 4000000 in
set_option maxRecDepth 100000 in
theorem c_X11_person (l : Launch) (D : va_G) (cy : Nat → ClassId) (ad : Nat → Nat) (A : Nat → Prop) (G : Gd A ad nsX)   (x1 : Int32) (x2 : Int32) (M : Mm) (post : Int32 → Mm → Prop) (h : w_X11_person x1 x2 M post) : CI l yX11_person wsX11_person (rmL 8) D (tysC cy) A ad nsX (ceX ad cy) (ExX A ad) [.ref (ad 0), .int x1, .int x2] M post := by
  refine Met_V (cc := cX11_person) (maxL := 3) (ret := (some .int)) (by decide) rfl G Lo_X ExX_ok (Nat.le_of_ble_eq_true rfl) rfl ?_
  intro p e s m args below meth c C hr hlk
  have C : Cx p s m args c cX11_person 3 RX11 wsX11_person D (tysC cy) A ad nsX (ceX ad cy) (ExX A ad) := C
  unfold w_X11_person at h
  refine V_aload_n C 0 dX11_person_0 rfl ?_
  refine V_get (k0 := 1) (Cn := RX11) (T := TX11) (N := 9) C (nsX_mem (by decide)) rfl iw_X11_person_X11 (by decide) rfl m_X11_person_f19 (ceX_0 _) rfl dX11_person_1 ?_
  refine V_iload_n C 1 dX11_person_4 rfl ?_
  refine V_callVi (q := (RX2, TX2, 18)) (rest := []) C (nsX_mem (by decide)) (ceX_3 _) rfl (c_X2_hasPerson l D cy ad A G 3 (by decide) x1 M _ h) (cwV 1 C.1.2.2.2.2 gX11_person_X2_hasPerson rfl rfl rfl (by decide +kernel) ⟨by decide, by decide⟩) rfl rfl (Nat.le_of_ble_eq_true rfl) dX11_person_5 (fun r1 M2 h => ?_)
  obtain ⟨z3, h⟩ := h
  refine V_if_ne C 14 dX11_person_8 (by decide) (fun q4 => ?_) (fun q4 => ?_)
  · have h := h.1 q4
    refine V_aload_n C 0 dX11_person_14 rfl ?_
    refine V_iload_n C 1 dX11_person_15 rfl ?_
    refine V_iload_n C 2 dX11_person_16 rfl ?_
    refine V_callVi (q := (RX11, TX11, 9)) (rest := []) C (nsX_mem (by decide)) (ceX_0 _) rfl (c_X11_tellPerson l D cy ad A G x1 x2 M2 _ h) (cwV 2 C.1.2.2.2.2 gX11_person_X11_tellPerson rfl rfl rfl (by decide +kernel) ⟨by decide, by decide⟩) rfl rfl (Nat.le_of_ble_eq_true rfl) dX11_person_17 (fun r5 M6 h => ?_)
    exact V_iret C hr hlk dX11_person_20 h
  · have h := h.2 q4
    refine V_bipush (v := (-101 : Int32)) C dX11_person_11 (by decide) ?_
    exact V_iret C hr hlk dX11_person_13 h
def w_X11_as (x1 : Int32) (x2 : Int32) (M : Mm) (post : Int32 → Mm → Prop) : Prop :=
  w_X2_hasPerson 3 x1 M (fun r1 M2 => ((¬ r1 = 0) → (((x2 < 0) → (post (-102 : Int32) M2)) ∧ ((¬ x2 < 0) → (((x2 < (5 : Int32)) → (w_X2_clerk 3 x1 M2 (fun r7 M8 => w_X11_isOfKind r7 x2 M8 (fun r10 M11 => ((r10 = 0) → (post (-1 : Int32) M11)) ∧ ((¬ r10 = 0) → (post x1 M11)))))) ∧ ((¬ x2 < (5 : Int32)) → (post (-102 : Int32) M2)))))) ∧ ((r1 = 0) → (post (-101 : Int32) M2)))
theorem iw_X11_as_X11 : ∀ w ∈ u_ws RX11 TX11 9, w ∈ wsX11_as := by decide +kernel
theorem m_X11_as_f19 : Cond.fieldLink RX11 19 "ShameYards" "now" "LShameYards$House;" ∈ wsX11_as := by decide +kernel
set_option maxHeartbeats 4000000 in
set_option maxRecDepth 100000 in
theorem c_X11_as (l : Launch) (D : va_G) (cy : Nat → ClassId) (ad : Nat → Nat) (A : Nat → Prop) (G : Gd A ad nsX)   (x1 : Int32) (x2 : Int32) (M : Mm) (post : Int32 → Mm → Prop) (h : w_X11_as x1 x2 M post) : CI l yX11_as wsX11_as (rmL 3) D (tysC cy) A ad nsX (ceX ad cy) (ExX A ad) [.ref (ad 0), .int x1, .int x2] M post := by
  refine Met_V (cc := cX11_as) (maxL := 3) (ret := (some .int)) (by decide) rfl G Lo_X ExX_ok (Nat.le_of_ble_eq_true rfl) rfl ?_
  intro p e s m args below meth c C hr hlk
  have C : Cx p s m args c cX11_as 3 RX11 wsX11_as D (tysC cy) A ad nsX (ceX ad cy) (ExX A ad) := C
  unfold w_X11_as at h
  refine V_aload_n C 0 dX11_as_0 rfl ?_
  refine V_get (k0 := 1) (Cn := RX11) (T := TX11) (N := 9) C (nsX_mem (by decide)) rfl iw_X11_as_X11 (by decide) rfl m_X11_as_f19 (ceX_0 _) rfl dX11_as_1 ?_
  refine V_iload_n C 1 dX11_as_4 rfl ?_
  refine V_callVi (q := (RX2, TX2, 18)) (rest := []) C (nsX_mem (by decide)) (ceX_3 _) rfl (c_X2_hasPerson l D cy ad A G 3 (by decide) x1 M _ h) (cwV 1 C.1.2.2.2.2 gX11_as_X2_hasPerson rfl rfl rfl (by decide +kernel) ⟨by decide, by decide⟩) rfl rfl (Nat.le_of_ble_eq_true rfl) dX11_as_5 (fun r1 M2 h => ?_)
  obtain ⟨z3, h⟩ := h
  refine V_if_ne C 14 dX11_as_8 (by decide) (fun q4 => ?_) (fun q4 => ?_)
  · have h := h.1 q4
    refine V_iload_n C 2 dX11_as_14 rfl ?_
    refine V_if_lt C 23 dX11_as_15 (by decide) (fun q5 => ?_) (fun q5 => ?_)
    · have h := h.1 q5
      refine V_bipush (v := (-102 : Int32)) C dX11_as_23 (by decide) ?_
      exact V_iret C hr hlk dX11_as_25 h
    · have h := h.2 q5
      refine V_iload_n C 2 dX11_as_18 rfl ?_
      refine V_iconst (v := (5 : Int32)) C dX11_as_19 (by decide) ?_
      refine V_icmp_lt C 26 dX11_as_20 (by decide) (fun q6 => ?_) (fun q6 => ?_)
      · have h := h.1 q6
        refine V_aload_n C 0 dX11_as_26 rfl ?_
        refine V_get (k0 := 1) (Cn := RX11) (T := TX11) (N := 9) C (nsX_mem (by decide)) rfl iw_X11_as_X11 (by decide) rfl m_X11_as_f19 (ceX_0 _) rfl dX11_as_27 ?_
        refine V_iload_n C 1 dX11_as_30 rfl ?_
        refine V_callVr (q := (RX2, TX2, 18)) (rest := []) C (nsX_mem (by decide)) (ceX_3 _) rfl (c_X2_clerk l D cy ad A G 3 (by decide) x1 M2 _ h) (cwV 1 C.1.2.2.2.2 gX11_as_X2_clerk rfl rfl rfl (by decide +kernel) ⟨by decide, by decide⟩) rfl rfl (Nat.le_of_ble_eq_true rfl) dX11_as_31 (fun r7 M8 h => ?_)
        refine V_iload_n C 2 dX11_as_34 rfl ?_
        refine V_callSi (rest := []) C (c_X11_isOfKind l D cy ad A G r7 x2 M8 _ h) (va_cwS 2 C.1.2.2.2.2 gX11_as_X11_isOfKind rfl rfl rfl (by decide +kernel) ⟨by decide, by decide⟩) rfl rfl (Nat.le_of_ble_eq_true rfl) dX11_as_35 (fun r10 M11 h => ?_)
        obtain ⟨z12, h⟩ := h
        refine V_if_eq C 45 dX11_as_38 (by decide) (fun q13 => ?_) (fun q13 => ?_)
        · have h := h.1 q13
          refine V_iconst (v := (-1 : Int32)) C dX11_as_45 (by decide) ?_
          exact V_iret C hr hlk dX11_as_46 h
        · have h := h.2 q13
          refine V_iload_n C 1 dX11_as_41 rfl ?_
          refine V_goto C 46 dX11_as_42 (by decide) ?_
          exact V_iret C hr hlk dX11_as_46 h
      · have h := h.2 q6
        refine V_bipush (v := (-102 : Int32)) C dX11_as_23 (by decide) ?_
        exact V_iret C hr hlk dX11_as_25 h
  · have h := h.2 q4
    refine V_bipush (v := (-101 : Int32)) C dX11_as_11 (by decide) ?_
    exact V_iret C hr hlk dX11_as_13 h
def w_X11_tellPassage (x1 : Int32) (x2 : Int32) (M : Mm) (post : Int32 → Mm → Prop) : Prop :=
  ((x2 = 0) → ((vp_in x1 7) ∧ (post (M.1 10 x1.toNatClampNeg) M))) ∧ ((¬ x2 = 0) → (((x2 = 1) → ((vp_in x1 7) ∧ (post (M.1 11 x1.toNatClampNeg) M))) ∧ ((¬ x2 = 1) → (((x2 = 2) → ((vp_in x1 7) ∧ (post (M.1 12 x1.toNatClampNeg) M))) ∧ ((¬ x2 = 2) → (post (-102 : Int32) M))))))
theorem iw_X11_tellPassage_X11 : ∀ w ∈ u_ws RX11 TX11 9, w ∈ wsX11_tellPassage := by decide +kernel
theorem iw_X11_tellPassage_X2 : ∀ w ∈ u_ws RX2 TX2 18, w ∈ wsX11_tellPassage := by decide +kernel
theorem m_X11_tellPassage_f19 : Cond.fieldLink RX11 19 "ShameYards" "now" "LShameYards$House;" ∈ wsX11_tellPassage := by decide +kernel
theorem m_X11_tellPassage_f133 : Cond.fieldLink RX11 133 "ShameYards$House" "oneEnd" "[I" ∈ wsX11_tellPassage := by decide +kernel
theorem m_X11_tellPassage_f136 : Cond.fieldLink RX11 136 "ShameYards$House" "otherEnd" "[I" ∈ wsX11_tellPassage := by decide +kernel
theorem m_X11_tellPassage_f139 : Cond.fieldLink RX11 139 "ShameYards$House" "lengths" "[I" ∈ wsX11_tellPassage := by decide +kernel
set_option maxHeartbeats 4000000 in
set_option maxRecDepth 100000 in
theorem c_X11_tellPassage (l : Launch) (D : va_G) (cy : Nat → ClassId) (ad : Nat → Nat) (A : Nat → Prop) (G : Gd A ad nsX)   (x1 : Int32) (x2 : Int32) (M : Mm) (post : Int32 → Mm → Prop) (h : w_X11_tellPassage x1 x2 M post) : CI l yX11_tellPassage wsX11_tellPassage (rmL 2) D (tysC cy) A ad nsX (ceX ad cy) (ExX A ad) [.ref (ad 0), .int x1, .int x2] M post := by
  refine Met_V (cc := cX11_tellPassage) (maxL := 3) (ret := (some .int)) (by decide) rfl G Lo_X ExX_ok (Nat.le_of_ble_eq_true rfl) rfl ?_
  intro p e s m args below meth c C hr hlk
  have C : Cx p s m args c cX11_tellPassage 3 RX11 wsX11_tellPassage D (tysC cy) A ad nsX (ceX ad cy) (ExX A ad) := C
  unfold w_X11_tellPassage at h
  refine V_iload_n C 2 dX11_tellPassage_0 rfl ?_
  by_cases q1 : x2 = 0
  · have h := h.1 q1
    refine V_tswIn C 28 dX11_tellPassage_1 (by rw [q1]; decide) (by rw [q1]; decide) (by rw [q1]; rfl) (by decide) ?_
    refine V_aload_n C 0 dX11_tellPassage_28 rfl ?_
    refine V_get (k0 := 1) (Cn := RX11) (T := TX11) (N := 9) C (nsX_mem (by decide)) rfl iw_X11_tellPassage_X11 (by decide) rfl m_X11_tellPassage_f19 (ceX_0 _) rfl dX11_tellPassage_29 ?_
    refine V_get (k0 := 4) (Cn := RX2) (T := TX2) (N := 18) C (nsX_mem (by decide)) rfl iw_X11_tellPassage_X2 (by decide) rfl m_X11_tellPassage_f133 (ceX_3 _) rfl dX11_tellPassage_32 ?_
    refine V_iload_n C 1 dX11_tellPassage_35 rfl ?_
    have g2 := h.1
    have h := h.2
    refine V_iald (t0 := 1) (L := 7) C (nsX_mem (by decide)) (fun _ => rfl) rfl g2 dX11_tellPassage_36 ?_
    exact V_iret C hr hlk dX11_tellPassage_37 h
  · have h := h.2 q1
    by_cases q3 : x2 = 1
    · have h := h.1 q3
      refine V_tswIn C 38 dX11_tellPassage_1 (by rw [q3]; decide) (by rw [q3]; decide) (by rw [q3]; rfl) (by decide) ?_
      refine V_aload_n C 0 dX11_tellPassage_38 rfl ?_
      refine V_get (k0 := 1) (Cn := RX11) (T := TX11) (N := 9) C (nsX_mem (by decide)) rfl iw_X11_tellPassage_X11 (by decide) rfl m_X11_tellPassage_f19 (ceX_0 _) rfl dX11_tellPassage_39 ?_
      refine V_get (k0 := 5) (Cn := RX2) (T := TX2) (N := 18) C (nsX_mem (by decide)) rfl iw_X11_tellPassage_X2 (by decide) rfl m_X11_tellPassage_f136 (ceX_3 _) rfl dX11_tellPassage_42 ?_
      refine V_iload_n C 1 dX11_tellPassage_45 rfl ?_
      have g4 := h.1
      have h := h.2
      refine V_iald (t0 := 1) (L := 7) C (nsX_mem (by decide)) (fun _ => rfl) rfl g4 dX11_tellPassage_46 ?_
      exact V_iret C hr hlk dX11_tellPassage_47 h
    · have h := h.2 q3
      by_cases q5 : x2 = 2
      · have h := h.1 q5
        refine V_tswIn C 48 dX11_tellPassage_1 (by rw [q5]; decide) (by rw [q5]; decide) (by rw [q5]; rfl) (by decide) ?_
        refine V_aload_n C 0 dX11_tellPassage_48 rfl ?_
        refine V_get (k0 := 1) (Cn := RX11) (T := TX11) (N := 9) C (nsX_mem (by decide)) rfl iw_X11_tellPassage_X11 (by decide) rfl m_X11_tellPassage_f19 (ceX_0 _) rfl dX11_tellPassage_49 ?_
        refine V_get (k0 := 6) (Cn := RX2) (T := TX2) (N := 18) C (nsX_mem (by decide)) rfl iw_X11_tellPassage_X2 (by decide) rfl m_X11_tellPassage_f139 (ceX_3 _) rfl dX11_tellPassage_52 ?_
        refine V_iload_n C 1 dX11_tellPassage_55 rfl ?_
        have g6 := h.1
        have h := h.2
        refine V_iald (t0 := 1) (L := 7) C (nsX_mem (by decide)) (fun _ => rfl) rfl g6 dX11_tellPassage_56 ?_
        exact V_iret C hr hlk dX11_tellPassage_57 h
      · have h := h.2 q5
        refine V_tswOut C 58 dX11_tellPassage_1 (by have := lv_neT q1 (show (0 : Int32).toInt = 0 by decide); have := lv_neT q3 (show (1 : Int32).toInt = 1 by decide); have := lv_neT q5 (show (2 : Int32).toInt = 2 by decide); omega) (by decide) ?_
        refine V_bipush (v := (-102 : Int32)) C dX11_tellPassage_58 (by decide) ?_
        exact V_iret C hr hlk dX11_tellPassage_60 h
def w_X11_passage (x1 : Int32) (x2 : Int32) (M : Mm) (post : Int32 → Mm → Prop) : Prop :=
  w_X2_hasPassage 3 x1 M (fun r1 M2 => ((¬ r1 = 0) → (w_X11_tellPassage x1 x2 M2 (fun r5 M6 => post r5 M6))) ∧ ((r1 = 0) → (post (-101 : Int32) M2)))
theorem iw_X11_passage_X11 : ∀ w ∈ u_ws RX11 TX11 9, w ∈ wsX11_passage := by decide +kernel
theorem m_X11_passage_f19 : Cond.fieldLink RX11 19 "ShameYards" "now" "LShameYards$House;" ∈ wsX11_passage := by decide +kernel
set_option maxHeartbeats 4000000 in
set_option maxRecDepth 100000 in
theorem c_X11_passage (l : Launch) (D : va_G) (cy : Nat → ClassId) (ad : Nat → Nat) (A : Nat → Prop) (G : Gd A ad nsX)   (x1 : Int32) (x2 : Int32) (M : Mm) (post : Int32 → Mm → Prop) (h : w_X11_passage x1 x2 M post) : CI l yX11_passage wsX11_passage (rmL 3) D (tysC cy) A ad nsX (ceX ad cy) (ExX A ad) [.ref (ad 0), .int x1, .int x2] M post := by
  refine Met_V (cc := cX11_passage) (maxL := 3) (ret := (some .int)) (by decide) rfl G Lo_X ExX_ok (Nat.le_of_ble_eq_true rfl) rfl ?_
  intro p e s m args below meth c C hr hlk
  have C : Cx p s m args c cX11_passage 3 RX11 wsX11_passage D (tysC cy) A ad nsX (ceX ad cy) (ExX A ad) := C
  unfold w_X11_passage at h
  refine V_aload_n C 0 dX11_passage_0 rfl ?_
  refine V_get (k0 := 1) (Cn := RX11) (T := TX11) (N := 9) C (nsX_mem (by decide)) rfl iw_X11_passage_X11 (by decide) rfl m_X11_passage_f19 (ceX_0 _) rfl dX11_passage_1 ?_
  refine V_iload_n C 1 dX11_passage_4 rfl ?_
  refine V_callVi (q := (RX2, TX2, 18)) (rest := []) C (nsX_mem (by decide)) (ceX_3 _) rfl (c_X2_hasPassage l D cy ad A G 3 (by decide) x1 M _ h) (cwV 1 C.1.2.2.2.2 gX11_passage_X2_hasPassage rfl rfl rfl (by decide +kernel) ⟨by decide, by decide⟩) rfl rfl (Nat.le_of_ble_eq_true rfl) dX11_passage_5 (fun r1 M2 h => ?_)
  obtain ⟨z3, h⟩ := h
  refine V_if_ne C 14 dX11_passage_8 (by decide) (fun q4 => ?_) (fun q4 => ?_)
  · have h := h.1 q4
    refine V_aload_n C 0 dX11_passage_14 rfl ?_
    refine V_iload_n C 1 dX11_passage_15 rfl ?_
    refine V_iload_n C 2 dX11_passage_16 rfl ?_
    refine V_callVi (q := (RX11, TX11, 9)) (rest := []) C (nsX_mem (by decide)) (ceX_0 _) rfl (c_X11_tellPassage l D cy ad A G x1 x2 M2 _ h) (cwV 2 C.1.2.2.2.2 gX11_passage_X11_tellPassage rfl rfl rfl (by decide +kernel) ⟨by decide, by decide⟩) rfl rfl (Nat.le_of_ble_eq_true rfl) dX11_passage_17 (fun r5 M6 h => ?_)
    exact V_iret C hr hlk dX11_passage_20 h
  · have h := h.2 q4
    refine V_bipush (v := (-101 : Int32)) C dX11_passage_11 (by decide) ?_
    exact V_iret C hr hlk dX11_passage_13 h
def w_X11_steps (x1 : Int32) (x2 : Int32) (x3 : Int32) (M : Mm) (post : Int32 → Mm → Prop) : Prop :=
  w_X2_knows 3 x1 x2 x3 M (fun r1 M2 => ((¬ r1 = 0) → (w_X2_stepsOf 3 x1 x2 x3 M2 (fun r5 M6 => post r5 M6))) ∧ ((r1 = 0) → (post (-101 : Int32) M2)))
theorem iw_X11_steps_X11 : ∀ w ∈ u_ws RX11 TX11 9, w ∈ wsX11_steps := by decide +kernel
theorem m_X11_steps_f19 : Cond.fieldLink RX11 19 "ShameYards" "now" "LShameYards$House;" ∈ wsX11_steps := by decide +kernel
set_option maxHeartbeats 4000000 in
set_option maxRecDepth 100000 in
theorem c_X11_steps (l : Launch) (D : va_G) (cy : Nat → ClassId) (ad : Nat → Nat) (A : Nat → Prop) (G : Gd A ad nsX)   (x1 : Int32) (x2 : Int32) (x3 : Int32) (M : Mm) (post : Int32 → Mm → Prop) (h : w_X11_steps x1 x2 x3 M post) : CI l yX11_steps wsX11_steps (rmL 6) D (tysC cy) A ad nsX (ceX ad cy) (ExX A ad) [.ref (ad 0), .int x1, .int x2, .int x3] M post := by
  refine Met_V (cc := cX11_steps) (maxL := 4) (ret := (some .int)) (by decide) rfl G Lo_X ExX_ok (Nat.le_of_ble_eq_true rfl) rfl ?_
  intro p e s m args below meth c C hr hlk
  have C : Cx p s m args c cX11_steps 4 RX11 wsX11_steps D (tysC cy) A ad nsX (ceX ad cy) (ExX A ad) := C
  unfold w_X11_steps at h
  refine V_aload_n C 0 dX11_steps_0 rfl ?_
  refine V_get (k0 := 1) (Cn := RX11) (T := TX11) (N := 9) C (nsX_mem (by decide)) rfl iw_X11_steps_X11 (by decide) rfl m_X11_steps_f19 (ceX_0 _) rfl dX11_steps_1 ?_
  refine V_iload_n C 1 dX11_steps_4 rfl ?_
  refine V_iload_n C 2 dX11_steps_5 rfl ?_
  refine V_iload_n C 3 dX11_steps_6 rfl ?_
  refine V_callVi (q := (RX2, TX2, 18)) (rest := []) C (nsX_mem (by decide)) (ceX_3 _) rfl (c_X2_knows l D cy ad A G 3 (by decide) x1 x2 x3 M _ h) (cwV 3 C.1.2.2.2.2 gX11_steps_X2_knows rfl rfl rfl (by decide +kernel) ⟨by decide, by decide⟩) rfl rfl (Nat.le_of_ble_eq_true rfl) dX11_steps_7 (fun r1 M2 h => ?_)
  obtain ⟨z3, h⟩ := h
  refine V_if_ne C 16 dX11_steps_10 (by decide) (fun q4 => ?_) (fun q4 => ?_)
  · have h := h.1 q4
    refine V_aload_n C 0 dX11_steps_16 rfl ?_
    refine V_get (k0 := 1) (Cn := RX11) (T := TX11) (N := 9) C (nsX_mem (by decide)) rfl iw_X11_steps_X11 (by decide) rfl m_X11_steps_f19 (ceX_0 _) rfl dX11_steps_17 ?_
    refine V_iload_n C 1 dX11_steps_20 rfl ?_
    refine V_iload_n C 2 dX11_steps_21 rfl ?_
    refine V_iload_n C 3 dX11_steps_22 rfl ?_
    refine V_callVi (q := (RX2, TX2, 18)) (rest := []) C (nsX_mem (by decide)) (ceX_3 _) rfl (c_X2_stepsOf l D cy ad A G 3 (by decide) x1 x2 x3 M2 _ h) (cwV 3 C.1.2.2.2.2 gX11_steps_X2_stepsOf rfl rfl rfl (by decide +kernel) ⟨by decide, by decide⟩) rfl rfl (Nat.le_of_ble_eq_true rfl) dX11_steps_23 (fun r5 M6 h => ?_)
    exact V_iret C hr hlk dX11_steps_26 h
  · have h := h.2 q4
    refine V_bipush (v := (-101 : Int32)) C dX11_steps_13 (by decide) ?_
    exact V_iret C hr hlk dX11_steps_15 h
def w_X11_go_70  (post : Int32 → Mm → Prop)  (v1 : Int32) (v2 : Int32) (v3 : Int32) (M : Mm) : Prop :=
    w_X2_walk 3 v1 v2 v3 M (fun r1 M2 => post r1 M2)
def w_X11_go (x1 : Int32) (x2 : Int32) (x3 : Int32) (M : Mm) (post : Int32 → Mm → Prop) : Prop :=
  w_X2_knows 3 x1 x2 x3 M (fun r4 M5 => ((¬ r4 = 0) → (w_X2_mayLeaveBy 3 x1 x2 x3 M5 (fun r8 M9 => ((¬ r8 = 0) → ((vp_in x1 5) ∧ ((((9000 : Int32) < (M9.1 17 x1.toNatClampNeg)) → (post (-104 : Int32) M9)) ∧ ((¬ (9000 : Int32) < (M9.1 17 x1.toNatClampNeg)) → (((x3 = (-1 : Int32)) → (w_X11_go_70  post  x1 x2 x3 M9)) ∧ ((¬ x3 = (-1 : Int32)) → ((vp_in x3 5) ∧ ((((M9.1 17 x3.toNatClampNeg) ≤ (9000 : Int32)) → (w_X11_go_70  post  x1 x2 x3 M9)) ∧ ((¬ (M9.1 17 x3.toNatClampNeg) ≤ (9000 : Int32)) → (post (-104 : Int32) M9)))))))))) ∧ ((r8 = 0) → (post (-103 : Int32) M9))))) ∧ ((r4 = 0) → (post (-101 : Int32) M5)))
theorem iw_X11_go_X11 : ∀ w ∈ u_ws RX11 TX11 9, w ∈ wsX11_go := by decide +kernel
theorem iw_X11_go_X2 : ∀ w ∈ u_ws RX2 TX2 18, w ∈ wsX11_go := by decide +kernel
theorem m_X11_go_f19 : Cond.fieldLink RX11 19 "ShameYards" "now" "LShameYards$House;" ∈ wsX11_go := by decide +kernel
theorem m_X11_go_f98 : Cond.fieldLink RX11 98 "ShameYards$House" "taken" "[I" ∈ wsX11_go := by decide +kernel
set_option maxHeartbeats 4000000 in
set_option maxRecDepth 100000 in
theorem c_X11_go (l : Launch) (D : va_G) (cy : Nat → ClassId) (ad : Nat → Nat) (A : Nat → Prop) (G : Gd A ad nsX)   (x1 : Int32) (x2 : Int32) (x3 : Int32) (M : Mm) (post : Int32 → Mm → Prop) (h : w_X11_go x1 x2 x3 M post) : CI l yX11_go wsX11_go (rmL 6) D (tysC cy) A ad nsX (ceX ad cy) (ExX A ad) [.ref (ad 0), .int x1, .int x2, .int x3] M post := by
  refine Met_V (cc := cX11_go) (maxL := 4) (ret := (some .int)) (by decide) rfl G Lo_X ExX_ok (Nat.le_of_ble_eq_true rfl) rfl ?_
  intro p e s m args below meth c C hr hlk
  have C : Cx p s m args c cX11_go 4 RX11 wsX11_go D (tysC cy) A ad nsX (ceX ad cy) (ExX A ad) := C
  have L70 : ∀  (v1 : Int32) (v2 : Int32) (v3 : Int32) (M : Mm), w_X11_go_70  post  v1 v2 v3 M → V p l e (rmL 6) s m args below meth c (MQ below (va_Qi post (Wd D (tysC cy) ad nsX (ceX ad cy) (ExX A ad)) A) args s 0 0 A) D A ad nsX (ceX ad cy) 4 M [(0, .ref (ad 0)), (1, .int v1), (2, .int v2), (3, .int v3)] 70 [] := by
    intro  v1 v2 v3 M h 
    unfold w_X11_go_70 at h
    refine V_aload_n C 0 dX11_go_70 rfl ?_
    refine V_get (k0 := 1) (Cn := RX11) (T := TX11) (N := 9) C (nsX_mem (by decide)) rfl iw_X11_go_X11 (by decide) rfl m_X11_go_f19 (ceX_0 _) rfl dX11_go_71 ?_
    refine V_iload_n C 1 dX11_go_74 rfl ?_
    refine V_iload_n C 2 dX11_go_75 rfl ?_
    refine V_iload_n C 3 dX11_go_76 rfl ?_
    refine V_callVi (q := (RX2, TX2, 18)) (rest := []) C (nsX_mem (by decide)) (ceX_3 _) rfl (c_X2_walk l D cy ad A G 3 (by decide) v1 v2 v3 M _ h) (cwV 3 C.1.2.2.2.2 gX11_go_X2_walk rfl rfl rfl (by decide +kernel) ⟨by decide, by decide⟩) rfl rfl (Nat.le_of_ble_eq_true rfl) dX11_go_77 (fun r1 M2 h => ?_)
    exact V_iret C hr hlk dX11_go_80 h
  unfold w_X11_go at h
  refine V_aload_n C 0 dX11_go_0 rfl ?_
  refine V_get (k0 := 1) (Cn := RX11) (T := TX11) (N := 9) C (nsX_mem (by decide)) rfl iw_X11_go_X11 (by decide) rfl m_X11_go_f19 (ceX_0 _) rfl dX11_go_1 ?_
  refine V_iload_n C 1 dX11_go_4 rfl ?_
  refine V_iload_n C 2 dX11_go_5 rfl ?_
  refine V_iload_n C 3 dX11_go_6 rfl ?_
  refine V_callVi (q := (RX2, TX2, 18)) (rest := []) C (nsX_mem (by decide)) (ceX_3 _) rfl (c_X2_knows l D cy ad A G 3 (by decide) x1 x2 x3 M _ h) (cwV 3 C.1.2.2.2.2 gX11_go_X2_knows rfl rfl rfl (by decide +kernel) ⟨by decide, by decide⟩) rfl rfl (Nat.le_of_ble_eq_true rfl) dX11_go_7 (fun r4 M5 h => ?_)
  obtain ⟨z6, h⟩ := h
  refine V_if_ne C 16 dX11_go_10 (by decide) (fun q7 => ?_) (fun q7 => ?_)
  · have h := h.1 q7
    refine V_aload_n C 0 dX11_go_16 rfl ?_
    refine V_get (k0 := 1) (Cn := RX11) (T := TX11) (N := 9) C (nsX_mem (by decide)) rfl iw_X11_go_X11 (by decide) rfl m_X11_go_f19 (ceX_0 _) rfl dX11_go_17 ?_
    refine V_iload_n C 1 dX11_go_20 rfl ?_
    refine V_iload_n C 2 dX11_go_21 rfl ?_
    refine V_iload_n C 3 dX11_go_22 rfl ?_
    refine V_callVi (q := (RX2, TX2, 18)) (rest := []) C (nsX_mem (by decide)) (ceX_3 _) rfl (c_X2_mayLeaveBy l D cy ad A G 3 (by decide) x1 x2 x3 M5 _ h) (cwV 3 C.1.2.2.2.2 gX11_go_X2_mayLeaveBy rfl rfl rfl (by decide +kernel) ⟨by decide, by decide⟩) rfl rfl (Nat.le_of_ble_eq_true rfl) dX11_go_23 (fun r8 M9 h => ?_)
    obtain ⟨z10, h⟩ := h
    refine V_if_ne C 32 dX11_go_26 (by decide) (fun q11 => ?_) (fun q11 => ?_)
    · have h := h.1 q11
      refine V_aload_n C 0 dX11_go_32 rfl ?_
      refine V_get (k0 := 1) (Cn := RX11) (T := TX11) (N := 9) C (nsX_mem (by decide)) rfl iw_X11_go_X11 (by decide) rfl m_X11_go_f19 (ceX_0 _) rfl dX11_go_33 ?_
      refine V_get (k0 := 11) (Cn := RX2) (T := TX2) (N := 18) C (nsX_mem (by decide)) rfl iw_X11_go_X2 (by decide) rfl m_X11_go_f98 (ceX_3 _) rfl dX11_go_36 ?_
      refine V_iload_n C 1 dX11_go_39 rfl ?_
      have g12 := h.1
      have h := h.2
      refine V_iald (t0 := 1) (L := 5) C (nsX_mem (by decide)) (fun _ => rfl) rfl g12 dX11_go_40 ?_
      refine V_sipush (v := (9000 : Int32)) C dX11_go_41 (by decide) ?_
      refine V_icmp_gt C 67 dX11_go_44 (by decide) (fun q13 => ?_) (fun q13 => ?_)
      · have h := h.1 q13
        refine V_bipush (v := (-104 : Int32)) C dX11_go_67 (by decide) ?_
        exact V_iret C hr hlk dX11_go_69 h
      · have h := h.2 q13
        refine V_iload_n C 3 dX11_go_47 rfl ?_
        refine V_iconst (v := (-1 : Int32)) C dX11_go_48 (by decide) ?_
        refine V_icmp_eq C 70 dX11_go_49 (by decide) (fun q14 => ?_) (fun q14 => ?_)
        · have h := h.1 q14
          refine V_drop (lv' := [(0, .ref (ad 0)), (1, .int x1), (2, .int x2), (3, .int x3)]) [0, 1, 2, 3] rfl ?_
          exact L70  x1 x2 x3 M9 h 
        · have h := h.2 q14
          refine V_aload_n C 0 dX11_go_52 rfl ?_
          refine V_get (k0 := 1) (Cn := RX11) (T := TX11) (N := 9) C (nsX_mem (by decide)) rfl iw_X11_go_X11 (by decide) rfl m_X11_go_f19 (ceX_0 _) rfl dX11_go_53 ?_
          refine V_get (k0 := 11) (Cn := RX2) (T := TX2) (N := 18) C (nsX_mem (by decide)) rfl iw_X11_go_X2 (by decide) rfl m_X11_go_f98 (ceX_3 _) rfl dX11_go_56 ?_
          refine V_iload_n C 3 dX11_go_59 rfl ?_
          have g15 := h.1
          have h := h.2
          refine V_iald (t0 := 1) (L := 5) C (nsX_mem (by decide)) (fun _ => rfl) rfl g15 dX11_go_60 ?_
          refine V_sipush (v := (9000 : Int32)) C dX11_go_61 (by decide) ?_
          refine V_icmp_le C 70 dX11_go_64 (by decide) (fun q16 => ?_) (fun q16 => ?_)
          · have h := h.1 q16
            refine V_drop (lv' := [(0, .ref (ad 0)), (1, .int x1), (2, .int x2), (3, .int x3)]) [0, 1, 2, 3] rfl ?_
            exact L70  x1 x2 x3 M9 h 
          · have h := h.2 q16
            refine V_bipush (v := (-104 : Int32)) C dX11_go_67 (by decide) ?_
            exact V_iret C hr hlk dX11_go_69 h
    · have h := h.2 q11
      refine V_bipush (v := (-103 : Int32)) C dX11_go_29 (by decide) ?_
      exact V_iret C hr hlk dX11_go_31 h
  · have h := h.2 q7
    refine V_bipush (v := (-101 : Int32)) C dX11_go_13 (by decide) ?_
    exact V_iret C hr hlk dX11_go_15 h
def w_X11_sin (x1 : Int32) (M : Mm) (post : Int32 → Mm → Prop) : Prop :=
  w_X2_hasPerson 3 x1 M (fun r1 M2 => ((¬ r1 = 0) → ((vp_in x1 5) ∧ ((((M2.1 14 x1.toNatClampNeg) < (9 : Int32)) → (∀ M7 : Mm, M7 = wI M2 14 (upd (M2.1 14) x1.toNatClampNeg ((M2.1 14 x1.toNatClampNeg) + (1 : Int32))) → (post (M7.1 14 x1.toNatClampNeg) M7))) ∧ ((¬ (M2.1 14 x1.toNatClampNeg) < (9 : Int32)) → (post (-104 : Int32) M2))))) ∧ ((r1 = 0) → (post (-101 : Int32) M2)))
theorem iw_X11_sin_X11 : ∀ w ∈ u_ws RX11 TX11 9, w ∈ wsX11_sin := by decide +kernel
theorem iw_X11_sin_X2 : ∀ w ∈ u_ws RX2 TX2 18, w ∈ wsX11_sin := by decide +kernel
theorem m_X11_sin_f19 : Cond.fieldLink RX11 19 "ShameYards" "now" "LShameYards$House;" ∈ wsX11_sin := by decide +kernel
theorem m_X11_sin_f89 : Cond.fieldLink RX11 89 "ShameYards$House" "deeds" "[I" ∈ wsX11_sin := by decide +kernel
set_option maxHeartbeats 4000000 in
set_option maxRecDepth 100000 in
theorem c_X11_sin (l : Launch) (D : va_G) (cy : Nat → ClassId) (ad : Nat → Nat) (A : Nat → Prop) (G : Gd A ad nsX)   (x1 : Int32) (M : Mm) (post : Int32 → Mm → Prop) (h : w_X11_sin x1 M post) : CI l yX11_sin wsX11_sin (rmL 3) D (tysC cy) A ad nsX (ceX ad cy) (ExX A ad) [.ref (ad 0), .int x1] M post := by
  refine Met_V (cc := cX11_sin) (maxL := 2) (ret := (some .int)) (by decide) rfl G Lo_X ExX_ok (Nat.le_of_ble_eq_true rfl) rfl ?_
  intro p e s m args below meth c C hr hlk
  have C : Cx p s m args c cX11_sin 2 RX11 wsX11_sin D (tysC cy) A ad nsX (ceX ad cy) (ExX A ad) := C
  unfold w_X11_sin at h
  refine V_aload_n C 0 dX11_sin_0 rfl ?_
  refine V_get (k0 := 1) (Cn := RX11) (T := TX11) (N := 9) C (nsX_mem (by decide)) rfl iw_X11_sin_X11 (by decide) rfl m_X11_sin_f19 (ceX_0 _) rfl dX11_sin_1 ?_
  refine V_iload_n C 1 dX11_sin_4 rfl ?_
  refine V_callVi (q := (RX2, TX2, 18)) (rest := []) C (nsX_mem (by decide)) (ceX_3 _) rfl (c_X2_hasPerson l D cy ad A G 3 (by decide) x1 M _ h) (cwV 1 C.1.2.2.2.2 gX11_sin_X2_hasPerson rfl rfl rfl (by decide +kernel) ⟨by decide, by decide⟩) rfl rfl (Nat.le_of_ble_eq_true rfl) dX11_sin_5 (fun r1 M2 h => ?_)
  obtain ⟨z3, h⟩ := h
  refine V_if_ne C 14 dX11_sin_8 (by decide) (fun q4 => ?_) (fun q4 => ?_)
  · have h := h.1 q4
    refine V_aload_n C 0 dX11_sin_14 rfl ?_
    refine V_get (k0 := 1) (Cn := RX11) (T := TX11) (N := 9) C (nsX_mem (by decide)) rfl iw_X11_sin_X11 (by decide) rfl m_X11_sin_f19 (ceX_0 _) rfl dX11_sin_15 ?_
    refine V_get (k0 := 8) (Cn := RX2) (T := TX2) (N := 18) C (nsX_mem (by decide)) rfl iw_X11_sin_X2 (by decide) rfl m_X11_sin_f89 (ceX_3 _) rfl dX11_sin_18 ?_
    refine V_iload_n C 1 dX11_sin_21 rfl ?_
    have g5 := h.1
    have h := h.2
    refine V_iald (t0 := 1) (L := 5) C (nsX_mem (by decide)) (fun _ => rfl) rfl g5 dX11_sin_22 ?_
    refine V_bipush (v := (9 : Int32)) C dX11_sin_23 (by decide) ?_
    refine V_icmp_lt C 31 dX11_sin_25 (by decide) (fun q6 => ?_) (fun q6 => ?_)
    · have h := h.1 q6
      refine V_aload_n C 0 dX11_sin_31 rfl ?_
      refine V_get (k0 := 1) (Cn := RX11) (T := TX11) (N := 9) C (nsX_mem (by decide)) rfl iw_X11_sin_X11 (by decide) rfl m_X11_sin_f19 (ceX_0 _) rfl dX11_sin_32 ?_
      refine V_get (k0 := 8) (Cn := RX2) (T := TX2) (N := 18) C (nsX_mem (by decide)) rfl iw_X11_sin_X2 (by decide) rfl m_X11_sin_f89 (ceX_3 _) rfl dX11_sin_35 ?_
      refine V_iload_n C 1 dX11_sin_38 rfl ?_
      refine V_dup2 C dX11_sin_39 rfl rfl ?_
      refine V_iald (t0 := 1) (L := 5) C (nsX_mem (by decide)) (fun _ => rfl) rfl g5 dX11_sin_40 ?_
      refine V_iconst (v := (1 : Int32)) C dX11_sin_41 (by decide) ?_
      refine V_iadd C dX11_sin_42 ?_
      refine V_iast (t0 := 1) (L := 5) C (nsX_mem (by decide)) (fun _ => rfl) rfl g5 dX11_sin_43 (fun M7 e8 => ?_)
      have h := h M7 e8
      refine V_aload_n C 0 dX11_sin_44 rfl ?_
      refine V_get (k0 := 1) (Cn := RX11) (T := TX11) (N := 9) C (nsX_mem (by decide)) rfl iw_X11_sin_X11 (by decide) rfl m_X11_sin_f19 (ceX_0 _) rfl dX11_sin_45 ?_
      refine V_get (k0 := 8) (Cn := RX2) (T := TX2) (N := 18) C (nsX_mem (by decide)) rfl iw_X11_sin_X2 (by decide) rfl m_X11_sin_f89 (ceX_3 _) rfl dX11_sin_48 ?_
      refine V_iload_n C 1 dX11_sin_51 rfl ?_
      refine V_iald (t0 := 1) (L := 5) C (nsX_mem (by decide)) (fun _ => rfl) rfl g5 dX11_sin_52 ?_
      exact V_iret C hr hlk dX11_sin_53 h
    · have h := h.2 q6
      refine V_bipush (v := (-104 : Int32)) C dX11_sin_28 (by decide) ?_
      exact V_iret C hr hlk dX11_sin_30 h
  · have h := h.2 q4
    refine V_bipush (v := (-101 : Int32)) C dX11_sin_11 (by decide) ?_
    exact V_iret C hr hlk dX11_sin_13 h
def w_X11_lie (x1 : Int32) (M : Mm) (post : Int32 → Mm → Prop) : Prop :=
  w_X2_hasPerson 3 x1 M (fun r1 M2 => ((¬ r1 = 0) → ((vp_in x1 5) ∧ ((((M2.1 15 x1.toNatClampNeg) < (9 : Int32)) → (∀ M7 : Mm, M7 = wI M2 15 (upd (M2.1 15) x1.toNatClampNeg ((M2.1 15 x1.toNatClampNeg) + (1 : Int32))) → (post (M7.1 15 x1.toNatClampNeg) M7))) ∧ ((¬ (M2.1 15 x1.toNatClampNeg) < (9 : Int32)) → (post (-104 : Int32) M2))))) ∧ ((r1 = 0) → (post (-101 : Int32) M2)))
theorem iw_X11_lie_X11 : ∀ w ∈ u_ws RX11 TX11 9, w ∈ wsX11_lie := by decide +kernel
theorem iw_X11_lie_X2 : ∀ w ∈ u_ws RX2 TX2 18, w ∈ wsX11_lie := by decide +kernel
theorem m_X11_lie_f19 : Cond.fieldLink RX11 19 "ShameYards" "now" "LShameYards$House;" ∈ wsX11_lie := by decide +kernel
theorem m_X11_lie_f92 : Cond.fieldLink RX11 92 "ShameYards$House" "lies" "[I" ∈ wsX11_lie := by decide +kernel
set_option maxHeartbeats 4000000 in
set_option maxRecDepth 100000 in
theorem c_X11_lie (l : Launch) (D : va_G) (cy : Nat → ClassId) (ad : Nat → Nat) (A : Nat → Prop) (G : Gd A ad nsX)   (x1 : Int32) (M : Mm) (post : Int32 → Mm → Prop) (h : w_X11_lie x1 M post) : CI l yX11_lie wsX11_lie (rmL 3) D (tysC cy) A ad nsX (ceX ad cy) (ExX A ad) [.ref (ad 0), .int x1] M post := by
  refine Met_V (cc := cX11_lie) (maxL := 2) (ret := (some .int)) (by decide) rfl G Lo_X ExX_ok (Nat.le_of_ble_eq_true rfl) rfl ?_
  intro p e s m args below meth c C hr hlk
  have C : Cx p s m args c cX11_lie 2 RX11 wsX11_lie D (tysC cy) A ad nsX (ceX ad cy) (ExX A ad) := C
  unfold w_X11_lie at h
  refine V_aload_n C 0 dX11_lie_0 rfl ?_
  refine V_get (k0 := 1) (Cn := RX11) (T := TX11) (N := 9) C (nsX_mem (by decide)) rfl iw_X11_lie_X11 (by decide) rfl m_X11_lie_f19 (ceX_0 _) rfl dX11_lie_1 ?_
  refine V_iload_n C 1 dX11_lie_4 rfl ?_
  refine V_callVi (q := (RX2, TX2, 18)) (rest := []) C (nsX_mem (by decide)) (ceX_3 _) rfl (c_X2_hasPerson l D cy ad A G 3 (by decide) x1 M _ h) (cwV 1 C.1.2.2.2.2 gX11_lie_X2_hasPerson rfl rfl rfl (by decide +kernel) ⟨by decide, by decide⟩) rfl rfl (Nat.le_of_ble_eq_true rfl) dX11_lie_5 (fun r1 M2 h => ?_)
  obtain ⟨z3, h⟩ := h
  refine V_if_ne C 14 dX11_lie_8 (by decide) (fun q4 => ?_) (fun q4 => ?_)
  · have h := h.1 q4
    refine V_aload_n C 0 dX11_lie_14 rfl ?_
    refine V_get (k0 := 1) (Cn := RX11) (T := TX11) (N := 9) C (nsX_mem (by decide)) rfl iw_X11_lie_X11 (by decide) rfl m_X11_lie_f19 (ceX_0 _) rfl dX11_lie_15 ?_
    refine V_get (k0 := 9) (Cn := RX2) (T := TX2) (N := 18) C (nsX_mem (by decide)) rfl iw_X11_lie_X2 (by decide) rfl m_X11_lie_f92 (ceX_3 _) rfl dX11_lie_18 ?_
    refine V_iload_n C 1 dX11_lie_21 rfl ?_
    have g5 := h.1
    have h := h.2
    refine V_iald (t0 := 1) (L := 5) C (nsX_mem (by decide)) (fun _ => rfl) rfl g5 dX11_lie_22 ?_
    refine V_bipush (v := (9 : Int32)) C dX11_lie_23 (by decide) ?_
    refine V_icmp_lt C 31 dX11_lie_25 (by decide) (fun q6 => ?_) (fun q6 => ?_)
    · have h := h.1 q6
      refine V_aload_n C 0 dX11_lie_31 rfl ?_
      refine V_get (k0 := 1) (Cn := RX11) (T := TX11) (N := 9) C (nsX_mem (by decide)) rfl iw_X11_lie_X11 (by decide) rfl m_X11_lie_f19 (ceX_0 _) rfl dX11_lie_32 ?_
      refine V_get (k0 := 9) (Cn := RX2) (T := TX2) (N := 18) C (nsX_mem (by decide)) rfl iw_X11_lie_X2 (by decide) rfl m_X11_lie_f92 (ceX_3 _) rfl dX11_lie_35 ?_
      refine V_iload_n C 1 dX11_lie_38 rfl ?_
      refine V_dup2 C dX11_lie_39 rfl rfl ?_
      refine V_iald (t0 := 1) (L := 5) C (nsX_mem (by decide)) (fun _ => rfl) rfl g5 dX11_lie_40 ?_
      refine V_iconst (v := (1 : Int32)) C dX11_lie_41 (by decide) ?_
      refine V_iadd C dX11_lie_42 ?_
      refine V_iast (t0 := 1) (L := 5) C (nsX_mem (by decide)) (fun _ => rfl) rfl g5 dX11_lie_43 (fun M7 e8 => ?_)
      have h := h M7 e8
      refine V_aload_n C 0 dX11_lie_44 rfl ?_
      refine V_get (k0 := 1) (Cn := RX11) (T := TX11) (N := 9) C (nsX_mem (by decide)) rfl iw_X11_lie_X11 (by decide) rfl m_X11_lie_f19 (ceX_0 _) rfl dX11_lie_45 ?_
      refine V_get (k0 := 9) (Cn := RX2) (T := TX2) (N := 18) C (nsX_mem (by decide)) rfl iw_X11_lie_X2 (by decide) rfl m_X11_lie_f92 (ceX_3 _) rfl dX11_lie_48 ?_
      refine V_iload_n C 1 dX11_lie_51 rfl ?_
      refine V_iald (t0 := 1) (L := 5) C (nsX_mem (by decide)) (fun _ => rfl) rfl g5 dX11_lie_52 ?_
      exact V_iret C hr hlk dX11_lie_53 h
    · have h := h.2 q6
      refine V_bipush (v := (-104 : Int32)) C dX11_lie_28 (by decide) ?_
      exact V_iret C hr hlk dX11_lie_30 h
  · have h := h.2 q4
    refine V_bipush (v := (-101 : Int32)) C dX11_lie_11 (by decide) ?_
    exact V_iret C hr hlk dX11_lie_13 h
def w_X11_confess (x1 : Int32) (M : Mm) (post : Int32 → Mm → Prop) : Prop :=
  w_X2_hasPerson 3 x1 M (fun r1 M2 => ((¬ r1 = 0) → ((vp_in x1 5) ∧ (((0 < (M2.1 14 x1.toNatClampNeg)) → (∀ M7 : Mm, M7 = wI M2 14 (upd (M2.1 14) x1.toNatClampNeg ((M2.1 14 x1.toNatClampNeg) - (1 : Int32))) → (post (M7.1 14 x1.toNatClampNeg) M7))) ∧ ((¬ 0 < (M2.1 14 x1.toNatClampNeg)) → (post (-103 : Int32) M2))))) ∧ ((r1 = 0) → (post (-101 : Int32) M2)))
theorem iw_X11_confess_X11 : ∀ w ∈ u_ws RX11 TX11 9, w ∈ wsX11_confess := by decide +kernel
theorem iw_X11_confess_X2 : ∀ w ∈ u_ws RX2 TX2 18, w ∈ wsX11_confess := by decide +kernel
theorem m_X11_confess_f19 : Cond.fieldLink RX11 19 "ShameYards" "now" "LShameYards$House;" ∈ wsX11_confess := by decide +kernel
theorem m_X11_confess_f89 : Cond.fieldLink RX11 89 "ShameYards$House" "deeds" "[I" ∈ wsX11_confess := by decide +kernel
set_option maxHeartbeats 4000000 in
set_option maxRecDepth 100000 in
theorem c_X11_confess (l : Launch) (D : va_G) (cy : Nat → ClassId) (ad : Nat → Nat) (A : Nat → Prop) (G : Gd A ad nsX)   (x1 : Int32) (M : Mm) (post : Int32 → Mm → Prop) (h : w_X11_confess x1 M post) : CI l yX11_confess wsX11_confess (rmL 3) D (tysC cy) A ad nsX (ceX ad cy) (ExX A ad) [.ref (ad 0), .int x1] M post := by
  refine Met_V (cc := cX11_confess) (maxL := 2) (ret := (some .int)) (by decide) rfl G Lo_X ExX_ok (Nat.le_of_ble_eq_true rfl) rfl ?_
  intro p e s m args below meth c C hr hlk
  have C : Cx p s m args c cX11_confess 2 RX11 wsX11_confess D (tysC cy) A ad nsX (ceX ad cy) (ExX A ad) := C
  unfold w_X11_confess at h
  refine V_aload_n C 0 dX11_confess_0 rfl ?_
  refine V_get (k0 := 1) (Cn := RX11) (T := TX11) (N := 9) C (nsX_mem (by decide)) rfl iw_X11_confess_X11 (by decide) rfl m_X11_confess_f19 (ceX_0 _) rfl dX11_confess_1 ?_
  refine V_iload_n C 1 dX11_confess_4 rfl ?_
  refine V_callVi (q := (RX2, TX2, 18)) (rest := []) C (nsX_mem (by decide)) (ceX_3 _) rfl (c_X2_hasPerson l D cy ad A G 3 (by decide) x1 M _ h) (cwV 1 C.1.2.2.2.2 gX11_confess_X2_hasPerson rfl rfl rfl (by decide +kernel) ⟨by decide, by decide⟩) rfl rfl (Nat.le_of_ble_eq_true rfl) dX11_confess_5 (fun r1 M2 h => ?_)
  obtain ⟨z3, h⟩ := h
  refine V_if_ne C 14 dX11_confess_8 (by decide) (fun q4 => ?_) (fun q4 => ?_)
  · have h := h.1 q4
    refine V_aload_n C 0 dX11_confess_14 rfl ?_
    refine V_get (k0 := 1) (Cn := RX11) (T := TX11) (N := 9) C (nsX_mem (by decide)) rfl iw_X11_confess_X11 (by decide) rfl m_X11_confess_f19 (ceX_0 _) rfl dX11_confess_15 ?_
    refine V_get (k0 := 8) (Cn := RX2) (T := TX2) (N := 18) C (nsX_mem (by decide)) rfl iw_X11_confess_X2 (by decide) rfl m_X11_confess_f89 (ceX_3 _) rfl dX11_confess_18 ?_
    refine V_iload_n C 1 dX11_confess_21 rfl ?_
    have g5 := h.1
    have h := h.2
    refine V_iald (t0 := 1) (L := 5) C (nsX_mem (by decide)) (fun _ => rfl) rfl g5 dX11_confess_22 ?_
    refine V_if_gt C 29 dX11_confess_23 (by decide) (fun q6 => ?_) (fun q6 => ?_)
    · have h := h.1 q6
      refine V_aload_n C 0 dX11_confess_29 rfl ?_
      refine V_get (k0 := 1) (Cn := RX11) (T := TX11) (N := 9) C (nsX_mem (by decide)) rfl iw_X11_confess_X11 (by decide) rfl m_X11_confess_f19 (ceX_0 _) rfl dX11_confess_30 ?_
      refine V_get (k0 := 8) (Cn := RX2) (T := TX2) (N := 18) C (nsX_mem (by decide)) rfl iw_X11_confess_X2 (by decide) rfl m_X11_confess_f89 (ceX_3 _) rfl dX11_confess_33 ?_
      refine V_iload_n C 1 dX11_confess_36 rfl ?_
      refine V_dup2 C dX11_confess_37 rfl rfl ?_
      refine V_iald (t0 := 1) (L := 5) C (nsX_mem (by decide)) (fun _ => rfl) rfl g5 dX11_confess_38 ?_
      refine V_iconst (v := (1 : Int32)) C dX11_confess_39 (by decide) ?_
      refine V_isub C dX11_confess_40 ?_
      refine V_iast (t0 := 1) (L := 5) C (nsX_mem (by decide)) (fun _ => rfl) rfl g5 dX11_confess_41 (fun M7 e8 => ?_)
      have h := h M7 e8
      refine V_aload_n C 0 dX11_confess_42 rfl ?_
      refine V_get (k0 := 1) (Cn := RX11) (T := TX11) (N := 9) C (nsX_mem (by decide)) rfl iw_X11_confess_X11 (by decide) rfl m_X11_confess_f19 (ceX_0 _) rfl dX11_confess_43 ?_
      refine V_get (k0 := 8) (Cn := RX2) (T := TX2) (N := 18) C (nsX_mem (by decide)) rfl iw_X11_confess_X2 (by decide) rfl m_X11_confess_f89 (ceX_3 _) rfl dX11_confess_46 ?_
      refine V_iload_n C 1 dX11_confess_49 rfl ?_
      refine V_iald (t0 := 1) (L := 5) C (nsX_mem (by decide)) (fun _ => rfl) rfl g5 dX11_confess_50 ?_
      exact V_iret C hr hlk dX11_confess_51 h
    · have h := h.2 q6
      refine V_bipush (v := (-103 : Int32)) C dX11_confess_26 (by decide) ?_
      exact V_iret C hr hlk dX11_confess_28 h
  · have h := h.2 q4
    refine V_bipush (v := (-101 : Int32)) C dX11_confess_11 (by decide) ?_
    exact V_iret C hr hlk dX11_confess_13 h
def w_X11_carpet (x1 : Int32) (x2 : Int32) (M : Mm) (post : Int32 → Mm → Prop) : Prop :=
  w_X2_hasPassage 3 x1 M (fun r1 M2 => ((¬ r1 = 0) → (((x2 < (1 : Int32)) → (post (-102 : Int32) M2)) ∧ ((¬ x2 < (1 : Int32)) → (((x2 ≤ (9 : Int32)) → ((vp_in x1 7) ∧ (∀ M8 : Mm, M8 = wI M2 12 (upd (M2.1 12) x1.toNatClampNeg x2) → (post (M2.1 12 x1.toNatClampNeg) M8)))) ∧ ((¬ x2 ≤ (9 : Int32)) → (post (-102 : Int32) M2)))))) ∧ ((r1 = 0) → (post (-101 : Int32) M2)))
theorem iw_X11_carpet_X11 : ∀ w ∈ u_ws RX11 TX11 9, w ∈ wsX11_carpet := by decide +kernel
theorem iw_X11_carpet_X2 : ∀ w ∈ u_ws RX2 TX2 18, w ∈ wsX11_carpet := by decide +kernel
theorem m_X11_carpet_f19 : Cond.fieldLink RX11 19 "ShameYards" "now" "LShameYards$House;" ∈ wsX11_carpet := by decide +kernel
theorem m_X11_carpet_f139 : Cond.fieldLink RX11 139 "ShameYards$House" "lengths" "[I" ∈ wsX11_carpet := by decide +kernel
set_option maxHeartbeats 4000000 in
set_option maxRecDepth 100000 in
theorem c_X11_carpet (l : Launch) (D : va_G) (cy : Nat → ClassId) (ad : Nat → Nat) (A : Nat → Prop) (G : Gd A ad nsX)   (x1 : Int32) (x2 : Int32) (M : Mm) (post : Int32 → Mm → Prop) (h : w_X11_carpet x1 x2 M post) : CI l yX11_carpet wsX11_carpet (rmL 3) D (tysC cy) A ad nsX (ceX ad cy) (ExX A ad) [.ref (ad 0), .int x1, .int x2] M post := by
  refine Met_V (cc := cX11_carpet) (maxL := 4) (ret := (some .int)) (by decide) rfl G Lo_X ExX_ok (Nat.le_of_ble_eq_true rfl) rfl ?_
  intro p e s m args below meth c C hr hlk
  have C : Cx p s m args c cX11_carpet 4 RX11 wsX11_carpet D (tysC cy) A ad nsX (ceX ad cy) (ExX A ad) := C
  unfold w_X11_carpet at h
  refine V_aload_n C 0 dX11_carpet_0 rfl ?_
  refine V_get (k0 := 1) (Cn := RX11) (T := TX11) (N := 9) C (nsX_mem (by decide)) rfl iw_X11_carpet_X11 (by decide) rfl m_X11_carpet_f19 (ceX_0 _) rfl dX11_carpet_1 ?_
  refine V_iload_n C 1 dX11_carpet_4 rfl ?_
  refine V_callVi (q := (RX2, TX2, 18)) (rest := []) C (nsX_mem (by decide)) (ceX_3 _) rfl (c_X2_hasPassage l D cy ad A G 3 (by decide) x1 M _ h) (cwV 1 C.1.2.2.2.2 gX11_carpet_X2_hasPassage rfl rfl rfl (by decide +kernel) ⟨by decide, by decide⟩) rfl rfl (Nat.le_of_ble_eq_true rfl) dX11_carpet_5 (fun r1 M2 h => ?_)
  obtain ⟨z3, h⟩ := h
  refine V_if_ne C 14 dX11_carpet_8 (by decide) (fun q4 => ?_) (fun q4 => ?_)
  · have h := h.1 q4
    refine V_iload_n C 2 dX11_carpet_14 rfl ?_
    refine V_iconst (v := (1 : Int32)) C dX11_carpet_15 (by decide) ?_
    refine V_icmp_lt C 25 dX11_carpet_16 (by decide) (fun q5 => ?_) (fun q5 => ?_)
    · have h := h.1 q5
      refine V_bipush (v := (-102 : Int32)) C dX11_carpet_25 (by decide) ?_
      exact V_iret C hr hlk dX11_carpet_27 h
    · have h := h.2 q5
      refine V_iload_n C 2 dX11_carpet_19 rfl ?_
      refine V_bipush (v := (9 : Int32)) C dX11_carpet_20 (by decide) ?_
      refine V_icmp_le C 28 dX11_carpet_22 (by decide) (fun q6 => ?_) (fun q6 => ?_)
      · have h := h.1 q6
        refine V_aload_n C 0 dX11_carpet_28 rfl ?_
        refine V_get (k0 := 1) (Cn := RX11) (T := TX11) (N := 9) C (nsX_mem (by decide)) rfl iw_X11_carpet_X11 (by decide) rfl m_X11_carpet_f19 (ceX_0 _) rfl dX11_carpet_29 ?_
        refine V_get (k0 := 6) (Cn := RX2) (T := TX2) (N := 18) C (nsX_mem (by decide)) rfl iw_X11_carpet_X2 (by decide) rfl m_X11_carpet_f139 (ceX_3 _) rfl dX11_carpet_32 ?_
        refine V_iload_n C 1 dX11_carpet_35 rfl ?_
        have g7 := h.1
        have h := h.2
        refine V_iald (t0 := 1) (L := 7) C (nsX_mem (by decide)) (fun _ => rfl) rfl g7 dX11_carpet_36 ?_
        refine V_istore_n (lv' := [(3, .int (M2.1 12 x1.toNatClampNeg)), (0, .ref (ad 0)), (1, .int x1), (2, .int x2)]) C dX11_carpet_37 rfl (by decide) rfl ?_
        refine V_aload_n C 1 dX11_carpet_38 rfl ?_
        refine V_get (k0 := 1) (Cn := RX11) (T := TX11) (N := 9) C (nsX_mem (by decide)) rfl iw_X11_carpet_X11 (by decide) rfl m_X11_carpet_f19 (ceX_0 _) rfl dX11_carpet_39 ?_
        refine V_get (k0 := 6) (Cn := RX2) (T := TX2) (N := 18) C (nsX_mem (by decide)) rfl iw_X11_carpet_X2 (by decide) rfl m_X11_carpet_f139 (ceX_3 _) rfl dX11_carpet_42 ?_
        refine V_iload_n C 2 dX11_carpet_45 rfl ?_
        refine V_iload_n C 3 dX11_carpet_46 rfl ?_
        refine V_iast (t0 := 1) (L := 7) C (nsX_mem (by decide)) (fun _ => rfl) rfl g7 dX11_carpet_47 (fun M8 e9 => ?_)
        have h := h M8 e9
        refine V_iload_n C 0 dX11_carpet_48 rfl ?_
        exact V_iret C hr hlk dX11_carpet_49 h
      · have h := h.2 q6
        refine V_bipush (v := (-102 : Int32)) C dX11_carpet_25 (by decide) ?_
        exact V_iret C hr hlk dX11_carpet_27 h
  · have h := h.2 q4
    refine V_bipush (v := (-101 : Int32)) C dX11_carpet_11 (by decide) ?_
    exact V_iret C hr hlk dX11_carpet_13 h
