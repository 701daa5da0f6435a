def w_X5_append (x1 : Int32) (M : Mm) (post : Mm → Prop) : Prop :=
  (((52 : Int32) ≤ (M.1 1 1)) → (post M)) ∧ ((¬ (52 : Int32) ≤ (M.1 1 1)) → ((vp_in (M.1 1 1) 52) ∧ (∀ M3 : Mm, M3 = wI M 2 (upd (M.1 2) (M.1 1 1).toNatClampNeg x1) → (∀ M5 : Mm, M5 = wI M3 1 (upd (M3.1 1) 1 ((M3.1 1 1) + (1 : Int32))) → (post M5)))))
theorem iw_X5_append_X5 : ∀ w ∈ u_ws RX5 TX5 2, w ∈ wsX5_append := by decide +kernel
theorem m_X5_append_f15 : Cond.fieldLink RX5 15 "ShameYards$Page" "size" "I" ∈ wsX5_append := by decide +kernel
theorem m_X5_append_f9 : Cond.fieldLink RX5 9 "ShameYards$Page" "codes" "[I" ∈ wsX5_append := by decide +kernel
set_option maxHeartbeats 4000000 in
set_option maxRecDepth 100000 in
theorem c_X5_append (l : Launch) (D : va_G) (cy : Nat → ClassId) (ad : Nat → Nat) (A : Nat → Prop) (G : Gd A ad nsX)   (x1 : Int32) (M : Mm) (post : Mm → Prop) (h : w_X5_append x1 M post) : CV l yX5_append wsX5_append (rmL 2) D (tysC cy) A ad nsX (ceX ad cy) (ExX A ad) [.ref (ad 1), .int x1] M post := by
  refine Met_V (cc := cX5_append) (maxL := 2) (ret := none) (by decide) rfl G Lo_X ExX_ok (Nat.le_of_ble_eq_true rfl) rfl ?_
  intro p e s m args below meth c C hr hlk
  have C : Cx p s m args c cX5_append 2 RX5 wsX5_append D (tysC cy) A ad nsX (ceX ad cy) (ExX A ad) := C
  unfold w_X5_append at h
  refine V_aload_n C 0 dX5_append_0 rfl ?_
  refine V_get (k0 := 1) (Cn := RX5) (T := TX5) (N := 2) C (nsX_mem (by decide)) rfl iw_X5_append_X5 (by decide) rfl m_X5_append_f15 (ceX_1 _) rfl dX5_append_1 ?_
  refine V_bipush (v := (52 : Int32)) C dX5_append_4 (by decide) ?_
  refine V_icmp_ge C 29 dX5_append_6 (by decide) (fun q1 => ?_) (fun q1 => ?_)
  · have h := h.1 q1
    exact V_vret C hr hlk dX5_append_29 h
  · have h := h.2 q1
    refine V_aload_n C 0 dX5_append_9 rfl ?_
    refine V_get (k0 := 0) (Cn := RX5) (T := TX5) (N := 2) C (nsX_mem (by decide)) rfl iw_X5_append_X5 (by decide) rfl m_X5_append_f9 (ceX_1 _) rfl dX5_append_10 ?_
    refine V_aload_n C 0 dX5_append_13 rfl ?_
    refine V_get (k0 := 1) (Cn := RX5) (T := TX5) (N := 2) C (nsX_mem (by decide)) rfl iw_X5_append_X5 (by decide) rfl m_X5_append_f15 (ceX_1 _) rfl dX5_append_14 ?_
    refine V_iload_n C 1 dX5_append_17 rfl ?_
    have g2 := h.1
    have h := h.2
    refine V_iast (t0 := 1) (L := 52) C (nsX_mem (by decide)) (fun _ => rfl) rfl g2 dX5_append_18 (fun M3 e4 => ?_)
    have h := h M3 e4
    refine V_aload_n C 0 dX5_append_19 rfl ?_
    refine V_dup C dX5_append_20 rfl ?_
    refine V_get (k0 := 1) (Cn := RX5) (T := TX5) (N := 2) C (nsX_mem (by decide)) rfl iw_X5_append_X5 (by decide) rfl m_X5_append_f15 (ceX_1 _) rfl dX5_append_21 ?_
    refine V_iconst (v := (1 : Int32)) C dX5_append_24 (by decide) ?_
    refine V_iadd C dX5_append_25 ?_
    refine V_putI (k0 := 1) (Cn := RX5) (T := TX5) (N := 2) C (nsX_mem (by decide)) rfl iw_X5_append_X5 (by decide) rfl m_X5_append_f15 tyX5_ok nmX5 rfl (show _ = some FieldType.int by decide +kernel) rfl rfl (Nat.le_of_ble_eq_true rfl) (ceX_1 _) (stX1_1  _ _) dX5_append_26 (fun M5 e6 => ?_)
    have h := h M5 e6
    exact V_vret C hr hlk dX5_append_29 h
def w_X5_codeAt (x1 : Int32) (M : Mm) (post : Int32 → Mm → Prop) : Prop :=
  ((x1 < 0) → (post (0 : Int32) M)) ∧ ((¬ x1 < 0) → ((((M.1 1 1) ≤ x1) → (post (0 : Int32) M)) ∧ ((¬ (M.1 1 1) ≤ x1) → ((vp_in x1 52) ∧ (post (M.1 2 x1.toNatClampNeg) M)))))
theorem iw_X5_codeAt_X5 : ∀ w ∈ u_ws RX5 TX5 2, w ∈ wsX5_codeAt := by decide +kernel
theorem m_X5_codeAt_f15 : Cond.fieldLink RX5 15 "ShameYards$Page" "size" "I" ∈ wsX5_codeAt := by decide +kernel
theorem m_X5_codeAt_f9 : Cond.fieldLink RX5 9 "ShameYards$Page" "codes" "[I" ∈ wsX5_codeAt := by decide +kernel
set_option maxHeartbeats 4000000 in
set_option maxRecDepth 100000 in
theorem c_X5_codeAt (l : Launch) (D : va_G) (cy : Nat → ClassId) (ad : Nat → Nat) (A : Nat → Prop) (G : Gd A ad nsX)   (x1 : Int32) (M : Mm) (post : Int32 → Mm → Prop) (h : w_X5_codeAt x1 M post) : CI l yX5_codeAt wsX5_codeAt (rmL 2) D (tysC cy) A ad nsX (ceX ad cy) (ExX A ad) [.ref (ad 1), .int x1] M post := by
  refine Met_V (cc := cX5_codeAt) (maxL := 2) (ret := (some .int)) (by decide) rfl G Lo_X ExX_ok (Nat.le_of_ble_eq_true rfl) rfl ?_
  intro p e s m args below meth c C hr hlk
  have C : Cx p s m args c cX5_codeAt 2 RX5 wsX5_codeAt D (tysC cy) A ad nsX (ceX ad cy) (ExX A ad) := C
  unfold w_X5_codeAt at h
  refine V_iload_n C 1 dX5_codeAt_0 rfl ?_
  refine V_if_lt C 21 dX5_codeAt_1 (by decide) (fun q1 => ?_) (fun q1 => ?_)
  · have h := h.1 q1
    refine V_iconst (v := (0 : Int32)) C dX5_codeAt_21 (by decide) ?_
    exact V_iret C hr hlk dX5_codeAt_22 h
  · have h := h.2 q1
    refine V_iload_n C 1 dX5_codeAt_4 rfl ?_
    refine V_aload_n C 0 dX5_codeAt_5 rfl ?_
    refine V_get (k0 := 1) (Cn := RX5) (T := TX5) (N := 2) C (nsX_mem (by decide)) rfl iw_X5_codeAt_X5 (by decide) rfl m_X5_codeAt_f15 (ceX_1 _) rfl dX5_codeAt_6 ?_
    refine V_icmp_ge C 21 dX5_codeAt_9 (by decide) (fun q2 => ?_) (fun q2 => ?_)
    · have h := h.1 q2
      refine V_iconst (v := (0 : Int32)) C dX5_codeAt_21 (by decide) ?_
      exact V_iret C hr hlk dX5_codeAt_22 h
    · have h := h.2 q2
      refine V_aload_n C 0 dX5_codeAt_12 rfl ?_
      refine V_get (k0 := 0) (Cn := RX5) (T := TX5) (N := 2) C (nsX_mem (by decide)) rfl iw_X5_codeAt_X5 (by decide) rfl m_X5_codeAt_f9 (ceX_1 _) rfl dX5_codeAt_13 ?_
      refine V_iload_n C 1 dX5_codeAt_16 rfl ?_
      have g3 := h.1
      have h := h.2
      refine V_iald (t0 := 1) (L := 52) C (nsX_mem (by decide)) (fun _ => rfl) rfl g3 dX5_codeAt_17 ?_
      refine V_goto C 22 dX5_codeAt_18 (by decide) ?_
      exact V_iret C hr hlk dX5_codeAt_22 h
def w_X5_digitAt (x1 : Int32) (M : Mm) (post : Int32 → Mm → Prop) : Prop :=
  w_X5_codeAt x1 M (fun r1 M2 => post (r1 - (48 : Int32)) M2)
set_option maxHeartbeats 4000000 in
set_option maxRecDepth 100000 in
theorem c_X5_digitAt (l : Launch) (D : va_G) (cy : Nat → ClassId) (ad : Nat → Nat) (A : Nat → Prop) (G : Gd A ad nsX)   (x1 : Int32) (M : Mm) (post : Int32 → Mm → Prop) (h : w_X5_digitAt x1 M post) : CI l yX5_digitAt wsX5_digitAt (rmL 3) D (tysC cy) A ad nsX (ceX ad cy) (ExX A ad) [.ref (ad 1), .int x1] M post := by
  refine Met_V (cc := cX5_digitAt) (maxL := 2) (ret := (some .int)) (by decide) rfl G Lo_X ExX_ok (Nat.le_of_ble_eq_true rfl) rfl ?_
  intro p e s m args below meth c C hr hlk
  have C : Cx p s m args c cX5_digitAt 2 RX5 wsX5_digitAt D (tysC cy) A ad nsX (ceX ad cy) (ExX A ad) := C
  unfold w_X5_digitAt at h
  refine V_aload_n C 0 dX5_digitAt_0 rfl ?_
  refine V_iload_n C 1 dX5_digitAt_1 rfl ?_
  refine V_callVi (q := (RX5, TX5, 2)) (rest := []) C (nsX_mem (by decide)) (ceX_1 _) rfl (c_X5_codeAt l D cy ad A G x1 M _ h) (cwV 1 C.1.2.2.2.2 gX5_digitAt_X5_codeAt rfl rfl rfl (by decide +kernel) ⟨by decide, by decide⟩) rfl rfl (Nat.le_of_ble_eq_true rfl) dX5_digitAt_2 (fun r1 M2 h => ?_)
  refine V_bipush (v := (48 : Int32)) C dX5_digitAt_5 (by decide) ?_
  refine V_isub C dX5_digitAt_7 ?_
  exact V_iret C hr hlk dX5_digitAt_8 h
def w_X5_border_2  (post : Int32 → Mm → Prop)  : Nat → Int32 → Mm → Prop
  | 0 => fun _ _ => False
  | n + 1 => fun v1 M =>
    (((M.1 1 1) ≤ v1) → (post (M.1 1 1) M)) ∧ ((¬ (M.1 1 1) ≤ v1) → ((vp_in v1 52) ∧ (((¬ (M.1 2 v1.toNatClampNeg) = (59 : Int32)) → (w_X5_border_2  post  n (v1 + 4) M)) ∧ (((M.1 2 v1.toNatClampNeg) = (59 : Int32)) → (post v1 M)))))
def w_X5_border  (M : Mm) (post : Int32 → Mm → Prop) : Prop :=
  ∃ n0 : Nat, w_X5_border_2  post  n0 (5 : Int32) M
theorem iw_X5_border_X5 : ∀ w ∈ u_ws RX5 TX5 2, w ∈ wsX5_border := by decide +kernel
theorem m_X5_border_f15 : Cond.fieldLink RX5 15 "ShameYards$Page" "size" "I" ∈ wsX5_border := by decide +kernel
theorem m_X5_border_f9 : Cond.fieldLink RX5 9 "ShameYards$Page" "codes" "[I" ∈ wsX5_border := by decide +kernel
set_option maxHeartbeats 4000000 in
set_option maxRecDepth 100000 in
theorem c_X5_border (l : Launch) (D : va_G) (cy : Nat → ClassId) (ad : Nat → Nat) (A : Nat → Prop) (G : Gd A ad nsX)    (M : Mm) (post : Int32 → Mm → Prop) (h : w_X5_border  M post) : CI l yX5_border wsX5_border (rmL 2) D (tysC cy) A ad nsX (ceX ad cy) (ExX A ad) [.ref (ad 1)] M post := by
  refine Met_V (cc := cX5_border) (maxL := 2) (ret := (some .int)) (by decide) rfl G Lo_X ExX_ok (Nat.le_of_ble_eq_true rfl) rfl ?_
  intro p e s m args below meth c C hr hlk
  have C : Cx p s m args c cX5_border 2 RX5 wsX5_border D (tysC cy) A ad nsX (ceX ad cy) (ExX A ad) := C
  have L2 : ∀  (n : Nat) (v1 : Int32) (M : Mm), w_X5_border_2  post  n v1 M → V p l e (rmL 2) s m args below meth c (MQ below (va_Qi post (Wd D (tysC cy) ad nsX (ceX ad cy) (ExX A ad)) A) args s 0 0 A) D A ad nsX (ceX ad cy) 2 M [(0, .ref (ad 1)), (1, .int v1)] 2 [] := by
    intro  n
    induction n with
    | zero => intro v1 M h; exact h.elim
    | succ n ih =>
    intro v1 M h 
    unfold w_X5_border_2 at h
    refine V_iload_n C 1 dX5_border_2 rfl ?_
    refine V_aload_n C 0 dX5_border_3 rfl ?_
    refine V_get (k0 := 1) (Cn := RX5) (T := TX5) (N := 2) C (nsX_mem (by decide)) rfl iw_X5_border_X5 (by decide) rfl m_X5_border_f15 (ceX_1 _) rfl dX5_border_4 ?_
    refine V_icmp_ge C 29 dX5_border_7 (by decide) (fun q1 => ?_) (fun q1 => ?_)
    · have h := h.1 q1
      refine V_aload_n C 0 dX5_border_29 rfl ?_
      refine V_get (k0 := 1) (Cn := RX5) (T := TX5) (N := 2) C (nsX_mem (by decide)) rfl iw_X5_border_X5 (by decide) rfl m_X5_border_f15 (ceX_1 _) rfl dX5_border_30 ?_
      exact V_iret C hr hlk dX5_border_33 h
    · have h := h.2 q1
      refine V_aload_n C 0 dX5_border_10 rfl ?_
      refine V_get (k0 := 0) (Cn := RX5) (T := TX5) (N := 2) C (nsX_mem (by decide)) rfl iw_X5_border_X5 (by decide) rfl m_X5_border_f9 (ceX_1 _) rfl dX5_border_11 ?_
      refine V_iload_n C 1 dX5_border_14 rfl ?_
      have g2 := h.1
      have h := h.2
      refine V_iald (t0 := 1) (L := 52) C (nsX_mem (by decide)) (fun _ => rfl) rfl g2 dX5_border_15 ?_
      refine V_bipush (v := (59 : Int32)) C dX5_border_16 (by decide) ?_
      refine V_icmp_ne C 23 dX5_border_18 (by decide) (fun q3 => ?_) (fun q3 => ?_)
      · have h := h.1 q3
        refine V_iinc (v := (v1 + 4)) (lv' := [(1, .int (v1 + 4)), (0, .ref (ad 1))]) C 1 dX5_border_23 rfl rfl (by decide) rfl ?_
        refine V_goto C 2 dX5_border_26 (by decide) ?_
        refine V_drop (lv' := [(0, .ref (ad 1)), (1, .int (v1 + 4))]) [1, 0] rfl ?_
        exact ih (v1 + 4) M h 
      · have h := h.2 q3
        refine V_iload_n C 1 dX5_border_21 rfl ?_
        exact V_iret C hr hlk dX5_border_22 h
  unfold w_X5_border at h
  refine V_iconst (v := (5 : Int32)) C dX5_border_0 (by decide) ?_
  refine V_istore_n (lv' := [(1, .int (5 : Int32)), (0, .ref (ad 1))]) C dX5_border_1 rfl (by decide) rfl ?_
  refine V_drop (lv' := [(0, .ref (ad 1)), (1, .int (5 : Int32))]) [1, 0] rfl ?_
  obtain ⟨n0, h⟩ := h
  exact L2  n0 (5 : Int32) M h 
def w_X5_isDigit (x1 : Int32) (x2 : Int32) (x3 : Int32) (M : Mm) (post : Int32 → Mm → Prop) : Prop :=
  w_X5_codeAt x1 M (fun r1 M2 => (((r1 - (48 : Int32)) < x2) → (post (0 : Int32) M2)) ∧ ((¬ (r1 - (48 : Int32)) < x2) → (((x3 < (r1 - (48 : Int32))) → (post (0 : Int32) M2)) ∧ ((¬ x3 < (r1 - (48 : Int32))) → (post (1 : Int32) M2)))))
set_option maxHeartbeats 4000000 in
set_option maxRecDepth 100000 in
theorem c_X5_isDigit (l : Launch) (D : va_G) (cy : Nat → ClassId) (ad : Nat → Nat) (A : Nat → Prop) (G : Gd A ad nsX)   (x1 : Int32) (x2 : Int32) (x3 : Int32) (M : Mm) (post : Int32 → Mm → Prop) (h : w_X5_isDigit x1 x2 x3 M post) : CI l yX5_isDigit wsX5_isDigit (rmL 3) D (tysC cy) A ad nsX (ceX ad cy) (ExX A ad) [.ref (ad 1), .int x1, .int x2, .int x3] M (fun r M' => (r = 0 ∨ r = 1) ∧ post r M') := by
  refine Met_V (cc := cX5_isDigit) (maxL := 5) (ret := (some .boolean)) (by decide) rfl G Lo_X ExX_ok (Nat.le_of_ble_eq_true rfl) rfl ?_
  intro p e s m args below meth c C hr hlk
  have C : Cx p s m args c cX5_isDigit 5 RX5 wsX5_isDigit D (tysC cy) A ad nsX (ceX ad cy) (ExX A ad) := C
  unfold w_X5_isDigit at h
  refine V_aload_n C 0 dX5_isDigit_0 rfl ?_
  refine V_iload_n C 1 dX5_isDigit_1 rfl ?_
  refine V_callVi (q := (RX5, TX5, 2)) (rest := []) C (nsX_mem (by decide)) (ceX_1 _) rfl (c_X5_codeAt l D cy ad A G x1 M _ h) (cwV 1 C.1.2.2.2.2 gX5_isDigit_X5_codeAt rfl rfl rfl (by decide +kernel) ⟨by decide, by decide⟩) rfl rfl (Nat.le_of_ble_eq_true rfl) dX5_isDigit_2 (fun r1 M2 h => ?_)
  refine V_bipush (v := (48 : Int32)) C dX5_isDigit_5 (by decide) ?_
  refine V_isub C dX5_isDigit_7 ?_
  refine V_istore (lv' := [(4, .int (r1 - (48 : Int32))), (0, .ref (ad 1)), (1, .int x1), (2, .int x2), (3, .int x3)]) C dX5_isDigit_8 (by decide) rfl ?_
  refine V_iload C 0 dX5_isDigit_10 rfl ?_
  refine V_iload_n C 3 dX5_isDigit_12 rfl ?_
  refine V_icmp_lt C 26 dX5_isDigit_13 (by decide) (fun q4 => ?_) (fun q4 => ?_)
  · have h := h.1 q4
    refine V_iconst (v := (0 : Int32)) C dX5_isDigit_26 (by decide) ?_
    exact V_zret C hr hlk (Or.inl rfl) dX5_isDigit_27 h
  · have h := h.2 q4
    refine V_iload C 0 dX5_isDigit_16 rfl ?_
    refine V_iload_n C 4 dX5_isDigit_18 rfl ?_
    refine V_icmp_gt C 26 dX5_isDigit_19 (by decide) (fun q5 => ?_) (fun q5 => ?_)
    · have h := h.1 q5
      refine V_iconst (v := (0 : Int32)) C dX5_isDigit_26 (by decide) ?_
      exact V_zret C hr hlk (Or.inl rfl) dX5_isDigit_27 h
    · have h := h.2 q5
      refine V_iconst (v := (1 : Int32)) C dX5_isDigit_22 (by decide) ?_
      refine V_goto C 27 dX5_isDigit_23 (by decide) ?_
      exact V_zret C hr hlk (Or.inr rfl) dX5_isDigit_27 h
def w_J1_canEncode_9a6ad (x1 : Int32) (M : Mm) (post : Int32 → Mm → Prop) : Prop :=
  ((x1 < 0) → (post (0 : Int32) M)) ∧ ((¬ x1 < 0) → ((((255 : Int32) < x1) → (post (0 : Int32) M)) ∧ ((¬ (255 : Int32) < x1) → (post (1 : Int32) M))))
set_option maxHeartbeats 4000000 in
set_option maxRecDepth 100000 in
theorem c_J1_canEncode_9a6ad (l : Launch) (D : va_G) (cy : Nat → ClassId) (ad : Nat → Nat) (A : Nat → Prop) (G : Gd A ad nsX)   (x1 : Int32) (M : Mm) (post : Int32 → Mm → Prop) (h : w_J1_canEncode_9a6ad x1 M post) : CI l yJ1_canEncode_9a6ad wsJ1_canEncode_9a6ad (rmL 2) D (tysC cy) A ad nsX (ceX ad cy) (ExX A ad) [.int x1] M (fun r M' => (r = 0 ∨ r = 1) ∧ post r M') := by
  refine Met_V (cc := cJ1_canEncode_9a6ad) (maxL := 1) (ret := (some .boolean)) (by decide) rfl G Lo_X ExX_ok (Nat.le_of_ble_eq_true rfl) rfl ?_
  intro p e s m args below meth c C hr hlk
  have C : Cx p s m args c cJ1_canEncode_9a6ad 1 RJ1 wsJ1_canEncode_9a6ad D (tysC cy) A ad nsX (ceX ad cy) (ExX A ad) := C
  unfold w_J1_canEncode_9a6ad at h
  refine V_iload_n C 0 dJ1_canEncode_9a6ad_0 rfl ?_
  refine V_if_lt C 15 dJ1_canEncode_9a6ad_1 (by decide) (fun q1 => ?_) (fun q1 => ?_)
  · have h := h.1 q1
    refine V_iconst (v := (0 : Int32)) C dJ1_canEncode_9a6ad_15 (by decide) ?_
    exact V_zret C hr hlk (Or.inl rfl) dJ1_canEncode_9a6ad_16 h
  · have h := h.2 q1
    refine V_iload_n C 0 dJ1_canEncode_9a6ad_4 rfl ?_
    refine V_sipush (v := (255 : Int32)) C dJ1_canEncode_9a6ad_5 (by decide) ?_
    refine V_icmp_gt C 15 dJ1_canEncode_9a6ad_8 (by decide) (fun q2 => ?_) (fun q2 => ?_)
    · have h := h.1 q2
      refine V_iconst (v := (0 : Int32)) C dJ1_canEncode_9a6ad_15 (by decide) ?_
      exact V_zret C hr hlk (Or.inl rfl) dJ1_canEncode_9a6ad_16 h
    · have h := h.2 q2
      refine V_iconst (v := (1 : Int32)) C dJ1_canEncode_9a6ad_11 (by decide) ?_
      refine V_goto C 16 dJ1_canEncode_9a6ad_12 (by decide) ?_
      exact V_zret C hr hlk (Or.inr rfl) dJ1_canEncode_9a6ad_16 h
def w_J1_indexOfChar_4cfef_7  (post : Int32 → Mm → Prop)  : Nat → Int32 → Int32 → Int32 → Mm → Prop
  | 0 => fun _ _ _ _ => False
  | n + 1 => fun v3 v4 v5 M =>
    ((v3 ≤ v5) → (post (-1 : Int32) M)) ∧ ((¬ v3 ≤ v5) → ((vp_in v5 5) ∧ (((¬ (([99, 98, 109, 119, 108] : List Int32).getD v5.toNatClampNeg 0) = v4) → (w_J1_indexOfChar_4cfef_7  post  n v3 v4 (v5 + 1) M)) ∧ (((([99, 98, 109, 119, 108] : List Int32).getD v5.toNatClampNeg 0) = v4) → (post v5 M)))))
def w_J1_indexOfChar_4cfef (x1 : Int32) (x2 : Int32) (x3 : Int32) (M : Mm) (post : Int32 → Mm → Prop) : Prop :=
  ∃ n0 : Nat, w_J1_indexOfChar_4cfef_7  post  n0 x3 (x1.toInt8.toInt32) x2 M
set_option maxHeartbeats 4000000 in
set_option maxRecDepth 100000 in
theorem c_J1_indexOfChar_4cfef (l : Launch) (D : va_G) (cy : Nat → ClassId) (ad : Nat → Nat) (A : Nat → Prop) (G : Gd A ad nsX)   (x1 : Int32) (x2 : Int32) (x3 : Int32) (M : Mm) (post : Int32 → Mm → Prop) (h : w_J1_indexOfChar_4cfef x1 x2 x3 M post) : CI l yJ1_indexOfChar_4cfef wsJ1_indexOfChar_4cfef (rmL 2) D (tysC cy) A ad nsX (ceX ad cy) (ExX A ad) [.ref (ad 85), .int x1, .int x2, .int x3] M post := by
  refine Met_V (cc := cJ1_indexOfChar_4cfef) (maxL := 6) (ret := (some .int)) (by decide) rfl G Lo_X ExX_ok (Nat.le_of_ble_eq_true rfl) rfl ?_
  intro p e s m args below meth c C hr hlk
  have C : Cx p s m args c cJ1_indexOfChar_4cfef 6 RJ1 wsJ1_indexOfChar_4cfef D (tysC cy) A ad nsX (ceX ad cy) (ExX A ad) := C
  have L7 : ∀  (n : Nat) (v3 : Int32) (v4 : Int32) (v5 : Int32) (M : Mm), w_J1_indexOfChar_4cfef_7  post  n v3 v4 v5 M → V p l e (rmL 2) s m args below meth c (MQ below (va_Qi post (Wd D (tysC cy) ad nsX (ceX ad cy) (ExX A ad)) A) args s 0 0 A) D A ad nsX (ceX ad cy) 6 M [(0, .ref (ad 85)), (3, .int v3), (4, .int v4), (5, .int v5)] 7 [] := by
    intro  n
    induction n with
    | zero => intro v3 v4 v5 M h; exact h.elim
    | succ n ih =>
    intro v3 v4 v5 M h 
    unfold w_J1_indexOfChar_4cfef_7 at h
    refine V_iload C 3 dJ1_indexOfChar_4cfef_7 rfl ?_
    refine V_iload_n C 1 dJ1_indexOfChar_4cfef_9 rfl ?_
    refine V_icmp_ge C 31 dJ1_indexOfChar_4cfef_10 (by decide) (fun q1 => ?_) (fun q1 => ?_)
    · have h := h.1 q1
      refine V_iconst (v := (-1 : Int32)) C dJ1_indexOfChar_4cfef_31 (by decide) ?_
      exact V_iret C hr hlk dJ1_indexOfChar_4cfef_32 h
    · have h := h.2 q1
      refine V_aload_n C 0 dJ1_indexOfChar_4cfef_13 rfl ?_
      refine V_iload C 3 dJ1_indexOfChar_4cfef_14 rfl ?_
      have g2 := h.1
      have h := h.2
      refine V_tb (N := 5) (v := .int (([99, 98, 109, 119, 108] : List Int32).getD v5.toNatClampNeg 0)) C (C.2.2.2.2.1.2.2.1.1 0 (by decide)).2.2.2 g2 rfl dJ1_indexOfChar_4cfef_16 ?_
      refine V_iload C 2 dJ1_indexOfChar_4cfef_17 rfl ?_
      refine V_icmp_ne C 25 dJ1_indexOfChar_4cfef_19 (by decide) (fun q3 => ?_) (fun q3 => ?_)
      · have h := h.1 q3
        refine V_iinc (v := (v5 + 1)) (lv' := [(5, .int (v5 + 1)), (0, .ref (ad 85)), (3, .int v3), (4, .int v4)]) C 3 dJ1_indexOfChar_4cfef_25 rfl rfl (by decide) rfl ?_
        refine V_goto C 7 dJ1_indexOfChar_4cfef_28 (by decide) ?_
        refine V_drop (lv' := [(0, .ref (ad 85)), (3, .int v3), (4, .int v4), (5, .int (v5 + 1))]) [1, 2, 3, 0] rfl ?_
        exact ih v3 v4 (v5 + 1) M h 
      · have h := h.2 q3
        refine V_iload C 3 dJ1_indexOfChar_4cfef_22 rfl ?_
        exact V_iret C hr hlk dJ1_indexOfChar_4cfef_24 h
  unfold w_J1_indexOfChar_4cfef at h
  refine V_iload_n C 1 dJ1_indexOfChar_4cfef_0 rfl ?_
  refine V_i2b C dJ1_indexOfChar_4cfef_1 ?_
  refine V_istore (lv' := [(4, .int (x1.toInt8.toInt32)), (0, .ref (ad 85)), (1, .int x1), (2, .int x2), (3, .int x3)]) C dJ1_indexOfChar_4cfef_2 (by decide) rfl ?_
  refine V_iload_n C 3 dJ1_indexOfChar_4cfef_4 rfl ?_
  refine V_istore (lv' := [(5, .int x2), (4, .int (x1.toInt8.toInt32)), (0, .ref (ad 85)), (1, .int x1), (2, .int x2), (3, .int x3)]) C dJ1_indexOfChar_4cfef_5 (by decide) rfl ?_
  refine V_drop (lv' := [(0, .ref (ad 85)), (3, .int x3), (4, .int (x1.toInt8.toInt32)), (5, .int x2)]) [2, 5, 1, 0] rfl ?_
  obtain ⟨n0, h⟩ := h
  exact L7  n0 x3 (x1.toInt8.toInt32) x2 M h 
def w_J1_indexOf_4cfef (x1 : Int32) (x2 : Int32) (x3 : Int32) (M : Mm) (post : Int32 → Mm → Prop) : Prop :=
  w_J1_canEncode_9a6ad x1 M (fun r1 M2 => ((¬ r1 = 0) → ((((if x2 < (0 : Int32) then (0 : Int32) else x2) < (if (5 : Int32) < x3 then (5 : Int32) else x3)) → (w_J1_indexOfChar_4cfef x1 (if x2 < (0 : Int32) then (0 : Int32) else x2) (if (5 : Int32) < x3 then (5 : Int32) else x3) M2 (fun r6 M7 => post r6 M7))) ∧ ((¬ (if x2 < (0 : Int32) then (0 : Int32) else x2) < (if (5 : Int32) < x3 then (5 : Int32) else x3)) → (post (-1 : Int32) M2)))) ∧ ((r1 = 0) → (post (-1 : Int32) M2)))
theorem m_J1_indexOf_4cfef_l92 : Cond.methodLink RJ1 92 Lib.Math.max.name ∈ wsJ1_indexOf_4cfef := by decide +kernel
theorem m_J1_indexOf_4cfef_smax : Cond.static Lib.Math.max.name ∈ wsJ1_indexOf_4cfef := by decide +kernel
theorem m_J1_indexOf_4cfef_imath : Cond.initialized "java/lang/Math" ∈ wsJ1_indexOf_4cfef := by decide +kernel
theorem m_J1_indexOf_4cfef_kmax : Cond.code Lib.Math.max.name Lib.Math.max.code 2 (some .int) ∈ wsJ1_indexOf_4cfef := by decide +kernel
theorem m_J1_indexOf_4cfef_l38 : Cond.methodLink RJ1 38 Lib.Math.min.name ∈ wsJ1_indexOf_4cfef := by decide +kernel
theorem m_J1_indexOf_4cfef_smin : Cond.static Lib.Math.min.name ∈ wsJ1_indexOf_4cfef := by decide +kernel
theorem m_J1_indexOf_4cfef_kmin : Cond.code Lib.Math.min.name Lib.Math.min.code 2 (some .int) ∈ wsJ1_indexOf_4cfef := by decide +kernel
set_option maxHeartbeats 4000000 in
set_option maxRecDepth 100000 in
theorem c_J1_indexOf_4cfef (l : Launch) (D : va_G) (cy : Nat → ClassId) (ad : Nat → Nat) (A : Nat → Prop) (G : Gd A ad nsX)   (x1 : Int32) (x2 : Int32) (x3 : Int32) (M : Mm) (post : Int32 → Mm → Prop) (h : w_J1_indexOf_4cfef x1 x2 x3 M post) : CI l yJ1_indexOf_4cfef wsJ1_indexOf_4cfef (rmL 3) D (tysC cy) A ad nsX (ceX ad cy) (ExX A ad) [.ref (ad 85), .int x1, .int x2, .int x3] M post := by
  refine Met_V (cc := cJ1_indexOf_4cfef) (maxL := 4) (ret := (some .int)) (by decide) rfl G Lo_X ExX_ok (Nat.le_of_ble_eq_true rfl) rfl ?_
  intro p e s m args below meth c C hr hlk
  have C : Cx p s m args c cJ1_indexOf_4cfef 4 RJ1 wsJ1_indexOf_4cfef D (tysC cy) A ad nsX (ceX ad cy) (ExX A ad) := C
  unfold w_J1_indexOf_4cfef at h
  refine V_iload_n C 1 dJ1_indexOf_4cfef_0 rfl ?_
  refine V_callSi (rest := []) C (c_J1_canEncode_9a6ad l D cy ad A G x1 M _ h) (va_cwS 1 C.1.2.2.2.2 gJ1_indexOf_4cfef_J1_canEncode_9a6ad rfl rfl rfl (by decide +kernel) ⟨by decide, by decide⟩) rfl rfl (Nat.le_of_ble_eq_true rfl) dJ1_indexOf_4cfef_1 (fun r1 M2 h => ?_)
  obtain ⟨z3, h⟩ := h
  refine V_if_ne C 9 dJ1_indexOf_4cfef_4 (by decide) (fun q4 => ?_) (fun q4 => ?_)
  · have h := h.1 q4
    refine V_iload_n C 2 dJ1_indexOf_4cfef_9 rfl ?_
    refine V_iconst (v := (0 : Int32)) C dJ1_indexOf_4cfef_10 (by decide) ?_
    refine V_mmax C m_J1_indexOf_4cfef_l92 m_J1_indexOf_4cfef_smax m_J1_indexOf_4cfef_imath m_J1_indexOf_4cfef_kmax (by decide) (Nat.le_of_ble_eq_true rfl) dJ1_indexOf_4cfef_11 ?_
    refine V_istore_n (lv' := [(2, .int (if x2 < (0 : Int32) then (0 : Int32) else x2)), (0, .ref (ad 85)), (1, .int x1), (3, .int x3)]) C dJ1_indexOf_4cfef_14 rfl (by decide) rfl ?_
    refine V_iload_n C 3 dJ1_indexOf_4cfef_15 rfl ?_
    refine V_aload_n C 1 dJ1_indexOf_4cfef_16 rfl ?_
    refine V_tlen (v := (5 : Int32)) C (C.2.2.2.2.1.2.2.1.1 0 (by decide)).2.2.2 rfl dJ1_indexOf_4cfef_17 ?_
    refine V_mmin C m_J1_indexOf_4cfef_l38 m_J1_indexOf_4cfef_smin m_J1_indexOf_4cfef_imath m_J1_indexOf_4cfef_kmin (by decide) (Nat.le_of_ble_eq_true rfl) dJ1_indexOf_4cfef_18 ?_
    refine V_istore_n (lv' := [(3, .int (if (5 : Int32) < x3 then (5 : Int32) else x3)), (2, .int (if x2 < (0 : Int32) then (0 : Int32) else x2)), (0, .ref (ad 85)), (1, .int x1)]) C dJ1_indexOf_4cfef_21 rfl (by decide) rfl ?_
    refine V_iload_n C 1 dJ1_indexOf_4cfef_22 rfl ?_
    refine V_iload_n C 0 dJ1_indexOf_4cfef_23 rfl ?_
    refine V_icmp_lt C 29 dJ1_indexOf_4cfef_24 (by decide) (fun q5 => ?_) (fun q5 => ?_)
    · have h := h.1 q5
      refine V_aload_n C 2 dJ1_indexOf_4cfef_29 rfl ?_
      refine V_iload_n C 3 dJ1_indexOf_4cfef_30 rfl ?_
      refine V_iload_n C 1 dJ1_indexOf_4cfef_31 rfl ?_
      refine V_iload_n C 0 dJ1_indexOf_4cfef_32 rfl ?_
      refine V_callSi (rest := []) C (c_J1_indexOfChar_4cfef l D cy ad A G x1 (if x2 < (0 : Int32) then (0 : Int32) else x2) (if (5 : Int32) < x3 then (5 : Int32) else x3) M2 _ h) (va_cwS 4 C.1.2.2.2.2 gJ1_indexOf_4cfef_J1_indexOfChar_4cfef rfl rfl rfl (by decide +kernel) ⟨by decide, by decide⟩) rfl rfl (Nat.le_of_ble_eq_true rfl) dJ1_indexOf_4cfef_33 (fun r6 M7 h => ?_)
      exact V_iret C hr hlk dJ1_indexOf_4cfef_36 h
    · have h := h.2 q5
      refine V_iconst (v := (-1 : Int32)) C dJ1_indexOf_4cfef_27 (by decide) ?_
      exact V_iret C hr hlk dJ1_indexOf_4cfef_28 h
  · have h := h.2 q4
    refine V_iconst (v := (-1 : Int32)) C dJ1_indexOf_4cfef_7 (by decide) ?_
    exact V_iret C hr hlk dJ1_indexOf_4cfef_8 h
/-- String.indexOf of the text constant, at ad 84 -/
abbrev strA : String := "java/lang/String"
theorem mk_lat_38 : Cond.fieldLink RJ0 38 "java/lang/String" "COMPACT_STRINGS" "Z" ∈ wsJ0_isLatin1_aae02 := by decide +kernel
theorem mk_lat_15 : Cond.fieldLink RJ0 15 "java/lang/String" "coder" "B" ∈ wsJ0_isLatin1_aae02 := by decide +kernel
theorem c_isLatin1 (l : Launch) (D : va_G) (cy : Nat → ClassId) (ad : Nat → Nat) (A : Nat → Prop) (G : Gd A ad nsX) (M : Mm) (post : Int32 → Mm → Prop) (h : post 1 M) : CI l yJ0_isLatin1_aae02 wsJ0_isLatin1_aae02 (rmL 2) D (tysC cy) A ad nsX (ceX ad cy) (ExX A ad) [.ref (ad 84)] M (fun r M' => (r = 0 ∨ r = 1) ∧ post r M') := by
  refine Met_V (cc := cJ0_isLatin1_aae02) (maxL := 1) (ret := some .boolean) (by decide) rfl G Lo_X ExX_ok (Nat.le_of_ble_eq_true rfl) rfl ?_
  intro p e s m args below meth c C hr hlk
  have C : Cx p s m args c cJ0_isLatin1_aae02 1 RJ0 wsJ0_isLatin1_aae02 D (tysC cy) A ad nsX (ceX ad cy) (ExX A ad) := C
  refine V_gets C C.2.2.2.2.1.2.2.2 mk_lat_38 dJ0_isLatin1_aae02_0 ?_
  refine V_if_eq C 17 dJ0_isLatin1_aae02_3 (by decide) (fun q => absurd q (by decide)) (fun _ => ?_)
  refine V_aload_n C 0 dJ0_isLatin1_aae02_6 rfl ?_
  refine V_getO C (C.2.2.2.2.1.2.2.1.1 0 (by decide)).2.1 mk_lat_15 dJ0_isLatin1_aae02_7 ?_
  refine V_if_ne C 17 dJ0_isLatin1_aae02_10 (by decide) (fun q => absurd rfl q) (fun _ => ?_)
  refine V_iconst (v := 1) C dJ0_isLatin1_aae02_13 (by decide) ?_
  refine V_goto C 18 dJ0_isLatin1_aae02_14 (by decide) ?_
  exact V_zret C hr hlk (Or.inr rfl) dJ0_isLatin1_aae02_18 h
theorem mk_cod_38 : Cond.fieldLink RJ0 38 "java/lang/String" "COMPACT_STRINGS" "Z" ∈ wsJ0_coder_7d493 := by decide +kernel
theorem mk_cod_15 : Cond.fieldLink RJ0 15 "java/lang/String" "coder" "B" ∈ wsJ0_coder_7d493 := by decide +kernel
theorem c_coder (l : Launch) (D : va_G) (cy : Nat → ClassId) (ad : Nat → Nat) (A : Nat → Prop) (G : Gd A ad nsX) (M : Mm) (post : Int32 → Mm → Prop) (h : post 0 M) : CI l yJ0_coder_7d493 wsJ0_coder_7d493 (rmL 2) D (tysC cy) A ad nsX (ceX ad cy) (ExX A ad) [.ref (ad 84)] M post := by
  refine Met_V (cc := cJ0_coder_7d493) (maxL := 1) (ret := some .byte) (by decide) rfl G Lo_X ExX_ok (Nat.le_of_ble_eq_true rfl) rfl ?_
  intro p e s m args below meth c C hr hlk
  have C : Cx p s m args c cJ0_coder_7d493 1 RJ0 wsJ0_coder_7d493 D (tysC cy) A ad nsX (ceX ad cy) (ExX A ad) := C
  refine V_gets C C.2.2.2.2.1.2.2.2 mk_cod_38 dJ0_coder_7d493_0 ?_
  refine V_if_eq C 13 dJ0_coder_7d493_3 (by decide) (fun q => absurd q (by decide)) (fun _ => ?_)
  refine V_aload_n C 0 dJ0_coder_7d493_6 rfl ?_
  refine V_getO C (C.2.2.2.2.1.2.2.1.1 0 (by decide)).2.1 mk_cod_15 dJ0_coder_7d493_7 ?_
  refine V_goto C 14 dJ0_coder_7d493_10 (by decide) ?_
  exact V_bret C hr hlk rfl dJ0_coder_7d493_14 h
theorem mk_len_9 : Cond.fieldLink RJ0 9 "java/lang/String" "value" "[B" ∈ wsJ0_length_8abf5 := by decide +kernel
theorem c_length (l : Launch) (D : va_G) (cy : Nat → ClassId) (ad : Nat → Nat) (A : Nat → Prop) (G : Gd A ad nsX) (M : Mm) (post : Int32 → Mm → Prop) (h : post 5 M) : CI l yJ0_length_8abf5 wsJ0_length_8abf5 (rmL 3) D (tysC cy) A ad nsX (ceX ad cy) (ExX A ad) [.ref (ad 84)] M post := by
  refine Met_V (cc := cJ0_length_8abf5) (maxL := 1) (ret := some .int) (by decide) rfl G Lo_X ExX_ok (Nat.le_of_ble_eq_true rfl) rfl ?_
  intro p e s m args below meth c C hr hlk
  have C : Cx p s m args c cJ0_length_8abf5 1 RJ0 wsJ0_length_8abf5 D (tysC cy) A ad nsX (ceX ad cy) (ExX A ad) := C
  refine V_aload_n C 0 dJ0_length_8abf5_0 rfl ?_
  refine V_getO C (C.2.2.2.2.1.2.2.1.1 0 (by decide)).2.2.1 mk_len_9 dJ0_length_8abf5_1 ?_
  refine V_tlen (v := (5 : Int32)) C (C.2.2.2.2.1.2.2.1.1 0 (by decide)).2.2.2 rfl dJ0_length_8abf5_4 ?_
  refine V_aload_n C 0 dJ0_length_8abf5_5 rfl ?_
  refine V_callK (rest := [.int (5 : Int32)]) C (C.2.2.2.2.1.2.2.1.1 0 (by decide)).1 (c_coder l D cy ad A G M (fun r M1 => r = 0 ∧ M1 = M) ⟨rfl, rfl⟩) (cwV 0 C.1.2.2.2.2 gJ0_length_8abf5_J0_coder_7d493 rfl rfl rfl (by decide +kernel) ⟨by decide, by decide⟩) rfl rfl (Nat.le_of_ble_eq_true rfl) dJ0_length_8abf5_6 (fun r M1 h1 => ?_)
  obtain ⟨rfl, rfl⟩ := h1
  refine V_ishr C dJ0_length_8abf5_9 ?_
  exact V_iret C hr hlk dJ0_length_8abf5_10 h
theorem mk_io_9 : Cond.fieldLink RJ0 9 "java/lang/String" "value" "[B" ∈ wsJ0_indexOf_7cf53 := by decide +kernel
set_option maxHeartbeats 4000000 in
theorem c_indexOf2 (l : Launch) (D : va_G) (cy : Nat → ClassId) (ad : Nat → Nat) (A : Nat → Prop) (G : Gd A ad nsX) (x1 x2 : Int32) (M : Mm) (post : Int32 → Mm → Prop) (h : w_J1_indexOf_4cfef x1 x2 5 M post) : CI l yJ0_indexOf_7cf53 wsJ0_indexOf_7cf53 (rmL 8) D (tysC cy) A ad nsX (ceX ad cy) (ExX A ad) [.ref (ad 84), .int x1, .int x2] M post := by
  refine Met_V (cc := cJ0_indexOf_7cf53) (maxL := 3) (ret := some .int) (by decide) rfl G Lo_X ExX_ok (Nat.le_of_ble_eq_true rfl) rfl ?_
  intro p e s m args below meth c C hr hlk
  have C : Cx p s m args c cJ0_indexOf_7cf53 3 RJ0 wsJ0_indexOf_7cf53 D (tysC cy) A ad nsX (ceX ad cy) (ExX A ad) := C
  refine V_aload_n C 0 dJ0_indexOf_7cf53_0 rfl ?_
  refine V_callK (rest := []) C (C.2.2.2.2.1.2.2.1.1 0 (by decide)).1 (c_isLatin1 l D cy ad A G M (fun r M1 => r = 1 ∧ M1 = M) ⟨rfl, rfl⟩) (cwV 0 C.1.2.2.2.2 gJ0_indexOf_7cf53_J0_isLatin1_aae02 rfl rfl rfl (by decide +kernel) ⟨by decide, by decide⟩) rfl rfl (Nat.le_of_ble_eq_true rfl) dJ0_indexOf_7cf53_1 (fun r M1 h1 => ?_)
  obtain ⟨-, rfl, rfl⟩ := h1
  refine V_if_eq C 23 dJ0_indexOf_7cf53_4 (by decide) (fun q => absurd q (by decide)) (fun _ => ?_)
  refine V_aload_n C 0 dJ0_indexOf_7cf53_7 rfl ?_
  refine V_getO C (C.2.2.2.2.1.2.2.1.1 0 (by decide)).2.2.1 mk_io_9 dJ0_indexOf_7cf53_8 ?_
  refine V_iload_n C 1 dJ0_indexOf_7cf53_11 rfl ?_
  refine V_iload_n C 2 dJ0_indexOf_7cf53_12 rfl ?_
  refine V_aload_n C 0 dJ0_indexOf_7cf53_13 rfl ?_
  refine V_callK (rest := [.int x2, .int x1, .ref (ad 85)]) C (C.2.2.2.2.1.2.2.1.1 0 (by decide)).1 (c_length l D cy ad A G M1 (fun r M2 => r = 5 ∧ M2 = M1) ⟨rfl, rfl⟩) (cwV 0 C.1.2.2.2.2 gJ0_indexOf_7cf53_J0_length_8abf5 rfl rfl rfl (by decide +kernel) ⟨by decide, by decide⟩) rfl rfl (Nat.le_of_ble_eq_true rfl) dJ0_indexOf_7cf53_14 (fun r M2 h1 => ?_)
  obtain ⟨rfl, rfl⟩ := h1
  refine V_callSi (rest := []) C (c_J1_indexOf_4cfef l D cy ad A G x1 x2 5 M2 _ h) (va_cwS 4 C.1.2.2.2.2 gJ0_indexOf_7cf53_J1_indexOf_4cfef rfl rfl rfl (by decide +kernel) ⟨by decide, by decide⟩) rfl rfl (Nat.le_of_ble_eq_true rfl) dJ0_indexOf_7cf53_17 (fun r M3 h => ?_)
  refine V_goto C 36 dJ0_indexOf_7cf53_20 (by decide) ?_
  exact V_iret C hr hlk dJ0_indexOf_7cf53_36 h
theorem c_indexOf1 (l : Launch) (D : va_G) (cy : Nat → ClassId) (ad : Nat → Nat) (A : Nat → Prop) (G : Gd A ad nsX) (x1 : Int32) (M : Mm) (post : Int32 → Mm → Prop) (h : w_J1_indexOf_4cfef x1 0 5 M post) : CI l yJ0_indexOf_0f7a4 wsJ0_indexOf_0f7a4 (rmL 9) D (tysC cy) A ad nsX (ceX ad cy) (ExX A ad) [.ref (ad 84), .int x1] M post := by
  refine Met_V (cc := cJ0_indexOf_0f7a4) (maxL := 2) (ret := some .int) (by decide) rfl G Lo_X ExX_ok (Nat.le_of_ble_eq_true rfl) rfl ?_
  intro p e s m args below meth c C hr hlk
  have C : Cx p s m args c cJ0_indexOf_0f7a4 2 RJ0 wsJ0_indexOf_0f7a4 D (tysC cy) A ad nsX (ceX ad cy) (ExX A ad) := C
  refine V_aload_n C 0 dJ0_indexOf_0f7a4_0 rfl ?_
  refine V_iload_n C 1 dJ0_indexOf_0f7a4_1 rfl ?_
  refine V_iconst (v := 0) C dJ0_indexOf_0f7a4_2 (by decide) ?_
  refine V_callK (rest := []) C (C.2.2.2.2.1.2.2.1.1 0 (by decide)).1 (c_indexOf2 l D cy ad A G x1 0 M _ h) (cwV 2 C.1.2.2.2.2 gJ0_indexOf_0f7a4_J0_indexOf_7cf53 rfl rfl rfl (by decide +kernel) ⟨by decide, by decide⟩) rfl rfl (Nat.le_of_ble_eq_true rfl) dJ0_indexOf_0f7a4_3 (fun r M1 h => ?_)
  exact V_iret C hr hlk dJ0_indexOf_0f7a4_6 h
def w_X5_kindAt (x1 : Int32) (M : Mm) (post : Int32 → Mm → Prop) : Prop := w_X5_codeAt x1 M (fun r M1 => w_J1_indexOf_4cfef (r.toUInt32 % 65536).toInt32 0 5 M1 post)
theorem c_X5_kindAt (l : Launch) (D : va_G) (cy : Nat → ClassId) (ad : Nat → Nat) (A : Nat → Prop) (G : Gd A ad nsX) (x1 : Int32) (M : Mm) (post : Int32 → Mm → Prop) (h : w_X5_kindAt x1 M post) : CI l yX5_kindAt wsX5_kindAt (rmL 12) D (tysC cy) A ad nsX (ceX ad cy) (ExX A ad) [.ref (ad 1), .int x1] M post := by
  refine Met_V (cc := cX5_kindAt) (maxL := 2) (ret := some .int) (by decide) rfl G Lo_X ExX_ok (Nat.le_of_ble_eq_true rfl) rfl ?_
  intro p e s m args below meth c C hr hlk
  have C : Cx p s m args c cX5_kindAt 2 RX5 wsX5_kindAt D (tysC cy) A ad nsX (ceX ad cy) (ExX A ad) := C
  unfold w_X5_kindAt at h
  refine V_ldcS C C.2.2.2.2.1.2.1 dX5_kindAt_0 ?_
  refine V_aload_n C 0 dX5_kindAt_2 rfl ?_
  refine V_iload_n C 1 dX5_kindAt_3 rfl ?_
  refine V_callVi (q := (RX5, TX5, 2)) (rest := [.ref (ad 84)]) C (nsX_mem (by decide)) (ceX_1 _) rfl (c_X5_codeAt l D cy ad A G x1 M _ h) (cwV 1 C.1.2.2.2.2 gX5_kindAt_X5_codeAt rfl rfl rfl (by decide +kernel) ⟨by decide, by decide⟩) rfl rfl (Nat.le_of_ble_eq_true rfl) dX5_kindAt_4 (fun r M1 h => ?_)
  refine V_i2c C dX5_kindAt_7 ?_
  refine V_callK (rest := []) C (C.2.2.2.2.1.2.2.1.1 0 (by decide)).1 (c_indexOf1 l D cy ad A G _ M1 _ h) (cwV 1 C.1.2.2.2.2 gX5_kindAt_J0_indexOf_0f7a4 rfl rfl rfl (by decide +kernel) ⟨by decide, by decide⟩) rfl rfl (Nat.le_of_ble_eq_true rfl) dX5_kindAt_8 (fun r M2 h => ?_)
  exact V_iret C hr hlk dX5_kindAt_11 h
def w_X5_fitsPassage (x1 : Int32) (M : Mm) (post : Int32 → Mm → Prop) : Prop :=
  w_X5_digitAt (0 : Int32) M (fun r1 M2 => ((((x1 - (2 : Int32)) - (x1 - (2 : Int32)) / (4 : Int32) * (4 : Int32)) = 0) → (w_X5_isDigit x1 (0 : Int32) (r1 - (1 : Int32)) M2 (fun r5 M6 => post r5 M6))) ∧ ((¬ ((x1 - (2 : Int32)) - (x1 - (2 : Int32)) / (4 : Int32) * (4 : Int32)) = 0) → (((((x1 - (2 : Int32)) - (x1 - (2 : Int32)) / (4 : Int32) * (4 : Int32)) = 1) → (w_X5_isDigit x1 (0 : Int32) (r1 - (1 : Int32)) M2 (fun r9 M10 => ((r9 = 0) → (post (0 : Int32) M10)) ∧ ((¬ r9 = 0) → (w_X5_codeAt x1 M10 (fun r13 M14 => w_X5_codeAt (x1 - (1 : Int32)) M14 (fun r16 M17 => ((r13 = r16) → (post (0 : Int32) M17)) ∧ ((¬ r13 = r16) → (post (1 : Int32) M17))))))))) ∧ ((¬ ((x1 - (2 : Int32)) - (x1 - (2 : Int32)) / (4 : Int32) * (4 : Int32)) = 1) → (((((x1 - (2 : Int32)) - (x1 - (2 : Int32)) / (4 : Int32) * (4 : Int32)) = 2) → (w_X5_isDigit x1 (1 : Int32) (9 : Int32) M2 (fun r21 M22 => post r21 M22))) ∧ ((¬ ((x1 - (2 : Int32)) - (x1 - (2 : Int32)) / (4 : Int32) * (4 : Int32)) = 2) → (w_X5_codeAt x1 M2 (fun r24 M25 => ((¬ r24 = (44 : Int32)) → (post (0 : Int32) M25)) ∧ ((r24 = (44 : Int32)) → ((((24 : Int32) ≤ (x1 - (2 : Int32))) → (post (0 : Int32) M25)) ∧ ((¬ (24 : Int32) ≤ (x1 - (2 : Int32))) → (post (1 : Int32) M25))))))))))))
set_option maxHeartbeats 4000000 in
set_option maxRecDepth 100000 in
theorem c_X5_fitsPassage (l : Launch) (D : va_G) (cy : Nat → ClassId) (ad : Nat → Nat) (A : Nat → Prop) (G : Gd A ad nsX)   (x1 : Int32) (M : Mm) (post : Int32 → Mm → Prop) (h : w_X5_fitsPassage x1 M post) : CI l yX5_fitsPassage wsX5_fitsPassage (rmL 4) D (tysC cy) A ad nsX (ceX ad cy) (ExX A ad) [.ref (ad 1), .int x1] M (fun r M' => (r = 0 ∨ r = 1) ∧ post r M') := by
  refine Met_V (cc := cX5_fitsPassage) (maxL := 3) (ret := (some .boolean)) (by decide) rfl G Lo_X ExX_ok (Nat.le_of_ble_eq_true rfl) rfl ?_
  intro p e s m args below meth c C hr hlk
  have C : Cx p s m args c cX5_fitsPassage 3 RX5 wsX5_fitsPassage D (tysC cy) A ad nsX (ceX ad cy) (ExX A ad) := C
  unfold w_X5_fitsPassage at h
  refine V_aload_n C 0 dX5_fitsPassage_0 rfl ?_
  refine V_iconst (v := (0 : Int32)) C dX5_fitsPassage_1 (by decide) ?_
  refine V_callVi (q := (RX5, TX5, 2)) (rest := []) C (nsX_mem (by decide)) (ceX_1 _) rfl (c_X5_digitAt l D cy ad A G (0 : Int32) M _ h) (cwV 1 C.1.2.2.2.2 gX5_fitsPassage_X5_digitAt rfl rfl rfl (by decide +kernel) ⟨by decide, by decide⟩) rfl rfl (Nat.le_of_ble_eq_true rfl) dX5_fitsPassage_2 (fun r1 M2 h => ?_)
  refine V_iconst (v := (1 : Int32)) C dX5_fitsPassage_5 (by decide) ?_
  refine V_isub C dX5_fitsPassage_6 ?_
  refine V_istore_n (lv' := [(2, .int (r1 - (1 : Int32))), (0, .ref (ad 1)), (1, .int x1)]) C dX5_fitsPassage_7 rfl (by decide) rfl ?_
  refine V_iload_n C 2 dX5_fitsPassage_8 rfl ?_
  refine V_iconst (v := (2 : Int32)) C dX5_fitsPassage_9 (by decide) ?_
  refine V_isub C dX5_fitsPassage_10 ?_
  refine V_iconst (v := (4 : Int32)) C dX5_fitsPassage_11 (by decide) ?_
  refine V_irem C dX5_fitsPassage_12 (by decide) ?_
  by_cases q4 : ((x1 - (2 : Int32)) - (x1 - (2 : Int32)) / (4 : Int32) * (4 : Int32)) = 0
  · have h := h.1 q4
    refine V_tswIn C 40 dX5_fitsPassage_13 (by rw [q4]; decide) (by rw [q4]; decide) (by rw [q4]; rfl) (by decide) ?_
    refine V_aload_n C 1 dX5_fitsPassage_40 rfl ?_
    refine V_iload_n C 2 dX5_fitsPassage_41 rfl ?_
    refine V_iconst (v := (0 : Int32)) C dX5_fitsPassage_42 (by decide) ?_
    refine V_iload_n C 0 dX5_fitsPassage_43 rfl ?_
    refine V_callVi (q := (RX5, TX5, 2)) (rest := []) C (nsX_mem (by decide)) (ceX_1 _) rfl (c_X5_isDigit l D cy ad A G x1 (0 : Int32) (r1 - (1 : Int32)) M2 _ h) (cwV 3 C.1.2.2.2.2 gX5_fitsPassage_X5_isDigit rfl rfl rfl (by decide +kernel) ⟨by decide, by decide⟩) rfl rfl (Nat.le_of_ble_eq_true rfl) dX5_fitsPassage_44 (fun r5 M6 h => ?_)
    obtain ⟨z7, h⟩ := h
    exact V_zret C hr hlk z7 dX5_fitsPassage_47 h
  · have h := h.2 q4
    by_cases q8 : ((x1 - (2 : Int32)) - (x1 - (2 : Int32)) / (4 : Int32) * (4 : Int32)) = 1
    · have h := h.1 q8
      refine V_tswIn C 48 dX5_fitsPassage_13 (by rw [q8]; decide) (by rw [q8]; decide) (by rw [q8]; rfl) (by decide) ?_
      refine V_aload_n C 1 dX5_fitsPassage_48 rfl ?_
      refine V_iload_n C 2 dX5_fitsPassage_49 rfl ?_
      refine V_iconst (v := (0 : Int32)) C dX5_fitsPassage_50 (by decide) ?_
      refine V_iload_n C 0 dX5_fitsPassage_51 rfl ?_
      refine V_callVi (q := (RX5, TX5, 2)) (rest := []) C (nsX_mem (by decide)) (ceX_1 _) rfl (c_X5_isDigit l D cy ad A G x1 (0 : Int32) (r1 - (1 : Int32)) M2 _ h) (cwV 3 C.1.2.2.2.2 gX5_fitsPassage_X5_isDigit rfl rfl rfl (by decide +kernel) ⟨by decide, by decide⟩) rfl rfl (Nat.le_of_ble_eq_true rfl) dX5_fitsPassage_52 (fun r9 M10 h => ?_)
      obtain ⟨z11, h⟩ := h
      refine V_if_eq C 77 dX5_fitsPassage_55 (by decide) (fun q12 => ?_) (fun q12 => ?_)
      · have h := h.1 q12
        refine V_iconst (v := (0 : Int32)) C dX5_fitsPassage_77 (by decide) ?_
        exact V_zret C hr hlk (Or.inl rfl) dX5_fitsPassage_78 h
      · have h := h.2 q12
        refine V_aload_n C 1 dX5_fitsPassage_58 rfl ?_
        refine V_iload_n C 2 dX5_fitsPassage_59 rfl ?_
        refine V_callVi (q := (RX5, TX5, 2)) (rest := []) C (nsX_mem (by decide)) (ceX_1 _) rfl (c_X5_codeAt l D cy ad A G x1 M10 _ h) (cwV 1 C.1.2.2.2.2 gX5_fitsPassage_X5_codeAt rfl rfl rfl (by decide +kernel) ⟨by decide, by decide⟩) rfl rfl (Nat.le_of_ble_eq_true rfl) dX5_fitsPassage_60 (fun r13 M14 h => ?_)
        refine V_aload_n C 1 dX5_fitsPassage_63 rfl ?_
        refine V_iload_n C 2 dX5_fitsPassage_64 rfl ?_
        refine V_iconst (v := (1 : Int32)) C dX5_fitsPassage_65 (by decide) ?_
        refine V_isub C dX5_fitsPassage_66 ?_
        refine V_callVi (q := (RX5, TX5, 2)) (rest := [.int r13]) C (nsX_mem (by decide)) (ceX_1 _) rfl (c_X5_codeAt l D cy ad A G (x1 - (1 : Int32)) M14 _ h) (cwV 1 C.1.2.2.2.2 gX5_fitsPassage_X5_codeAt rfl rfl rfl (by decide +kernel) ⟨by decide, by decide⟩) rfl rfl (Nat.le_of_ble_eq_true rfl) dX5_fitsPassage_67 (fun r16 M17 h => ?_)
        refine V_icmp_eq C 77 dX5_fitsPassage_70 (by decide) (fun q19 => ?_) (fun q19 => ?_)
        · have h := h.1 q19
          refine V_iconst (v := (0 : Int32)) C dX5_fitsPassage_77 (by decide) ?_
          exact V_zret C hr hlk (Or.inl rfl) dX5_fitsPassage_78 h
        · have h := h.2 q19
          refine V_iconst (v := (1 : Int32)) C dX5_fitsPassage_73 (by decide) ?_
          refine V_goto C 78 dX5_fitsPassage_74 (by decide) ?_
          exact V_zret C hr hlk (Or.inr rfl) dX5_fitsPassage_78 h
    · have h := h.2 q8
      by_cases q20 : ((x1 - (2 : Int32)) - (x1 - (2 : Int32)) / (4 : Int32) * (4 : Int32)) = 2
      · have h := h.1 q20
        refine V_tswIn C 79 dX5_fitsPassage_13 (by rw [q20]; decide) (by rw [q20]; decide) (by rw [q20]; rfl) (by decide) ?_
        refine V_aload_n C 1 dX5_fitsPassage_79 rfl ?_
        refine V_iload_n C 2 dX5_fitsPassage_80 rfl ?_
        refine V_iconst (v := (1 : Int32)) C dX5_fitsPassage_81 (by decide) ?_
        refine V_bipush (v := (9 : Int32)) C dX5_fitsPassage_82 (by decide) ?_
        refine V_callVi (q := (RX5, TX5, 2)) (rest := []) C (nsX_mem (by decide)) (ceX_1 _) rfl (c_X5_isDigit l D cy ad A G x1 (1 : Int32) (9 : Int32) M2 _ h) (cwV 3 C.1.2.2.2.2 gX5_fitsPassage_X5_isDigit rfl rfl rfl (by decide +kernel) ⟨by decide, by decide⟩) rfl rfl (Nat.le_of_ble_eq_true rfl) dX5_fitsPassage_84 (fun r21 M22 h => ?_)
        obtain ⟨z23, h⟩ := h
        exact V_zret C hr hlk z23 dX5_fitsPassage_87 h
      · have h := h.2 q20
        refine V_tswOut C 88 dX5_fitsPassage_13 (by have := lv_neT q4 (show (0 : Int32).toInt = 0 by decide); have := lv_neT q8 (show (1 : Int32).toInt = 1 by decide); have := lv_neT q20 (show (2 : Int32).toInt = 2 by decide); omega) (by decide) ?_
        refine V_aload_n C 1 dX5_fitsPassage_88 rfl ?_
        refine V_iload_n C 2 dX5_fitsPassage_89 rfl ?_
        refine V_callVi (q := (RX5, TX5, 2)) (rest := []) C (nsX_mem (by decide)) (ceX_1 _) rfl (c_X5_codeAt l D cy ad A G x1 M2 _ h) (cwV 1 C.1.2.2.2.2 gX5_fitsPassage_X5_codeAt rfl rfl rfl (by decide +kernel) ⟨by decide, by decide⟩) rfl rfl (Nat.le_of_ble_eq_true rfl) dX5_fitsPassage_90 (fun r24 M25 h => ?_)
        refine V_bipush (v := (44 : Int32)) C dX5_fitsPassage_93 (by decide) ?_
        refine V_icmp_ne C 110 dX5_fitsPassage_95 (by decide) (fun q27 => ?_) (fun q27 => ?_)
        · have h := h.1 q27
          refine V_iconst (v := (0 : Int32)) C dX5_fitsPassage_110 (by decide) ?_
          exact V_zret C hr hlk (Or.inl rfl) dX5_fitsPassage_111 h
        · have h := h.2 q27
          refine V_iload_n C 2 dX5_fitsPassage_98 rfl ?_
          refine V_iconst (v := (2 : Int32)) C dX5_fitsPassage_99 (by decide) ?_
          refine V_isub C dX5_fitsPassage_100 ?_
          refine V_bipush (v := (24 : Int32)) C dX5_fitsPassage_101 (by decide) ?_
          refine V_icmp_ge C 110 dX5_fitsPassage_103 (by decide) (fun q28 => ?_) (fun q28 => ?_)
          · have h := h.1 q28
            refine V_iconst (v := (0 : Int32)) C dX5_fitsPassage_110 (by decide) ?_
            exact V_zret C hr hlk (Or.inl rfl) dX5_fitsPassage_111 h
          · have h := h.2 q28
            refine V_iconst (v := (1 : Int32)) C dX5_fitsPassage_106 (by decide) ?_
            refine V_goto C 111 dX5_fitsPassage_107 (by decide) ?_
            exact V_zret C hr hlk (Or.inr rfl) dX5_fitsPassage_111 h
def w_X5_fitsPerson (x1 : Int32) (x2 : Int32) (M : Mm) (post : Int32 → Mm → Prop) : Prop :=
  (((x2 - x2 / (4 : Int32) * (4 : Int32)) = 0) → (w_X5_kindAt x1 M (fun r2 M3 => ((r2 < 0) → (post (0 : Int32) M3)) ∧ ((¬ r2 < 0) → (post (1 : Int32) M3))))) ∧ ((¬ (x2 - x2 / (4 : Int32) * (4 : Int32)) = 0) → ((((x2 - x2 / (4 : Int32) * (4 : Int32)) = 1) → (w_X5_isDigit x1 (0 : Int32) (9 : Int32) M (fun r7 M8 => post r7 M8))) ∧ ((¬ (x2 - x2 / (4 : Int32) * (4 : Int32)) = 1) → ((((x2 - x2 / (4 : Int32) * (4 : Int32)) = 2) → (w_X5_isDigit x1 (0 : Int32) (9 : Int32) M (fun r11 M12 => post r11 M12))) ∧ ((¬ (x2 - x2 / (4 : Int32) * (4 : Int32)) = 2) → (w_X5_codeAt x1 M (fun r14 M15 => ((¬ r14 = (44 : Int32)) → (post (0 : Int32) M15)) ∧ ((r14 = (44 : Int32)) → ((((16 : Int32) ≤ x2) → (post (0 : Int32) M15)) ∧ ((¬ (16 : Int32) ≤ x2) → (post (1 : Int32) M15)))))))))))
set_option maxHeartbeats 4000000 in
set_option maxRecDepth 100000 in
theorem c_X5_fitsPerson (l : Launch) (D : va_G) (cy : Nat → ClassId) (ad : Nat → Nat) (A : Nat → Prop) (G : Gd A ad nsX)   (x1 : Int32) (x2 : Int32) (M : Mm) (post : Int32 → Mm → Prop) (h : w_X5_fitsPerson x1 x2 M post) : CI l yX5_fitsPerson wsX5_fitsPerson (rmL 13) D (tysC cy) A ad nsX (ceX ad cy) (ExX A ad) [.ref (ad 1), .int x1, .int x2] M (fun r M' => (r = 0 ∨ r = 1) ∧ post r M') := by
  refine Met_V (cc := cX5_fitsPerson) (maxL := 3) (ret := (some .boolean)) (by decide) rfl G Lo_X ExX_ok (Nat.le_of_ble_eq_true rfl) rfl ?_
  intro p e s m args below meth c C hr hlk
  have C : Cx p s m args c cX5_fitsPerson 3 RX5 wsX5_fitsPerson D (tysC cy) A ad nsX (ceX ad cy) (ExX A ad) := C
  unfold w_X5_fitsPerson at h
  refine V_iload_n C 2 dX5_fitsPerson_0 rfl ?_
  refine V_iconst (v := (4 : Int32)) C dX5_fitsPerson_1 (by decide) ?_
  refine V_irem C dX5_fitsPerson_2 (by decide) ?_
  by_cases q1 : (x2 - x2 / (4 : Int32) * (4 : Int32)) = 0
  · have h := h.1 q1
    refine V_tswIn C 28 dX5_fitsPerson_3 (by rw [q1]; decide) (by rw [q1]; decide) (by rw [q1]; rfl) (by decide) ?_
    refine V_aload_n C 0 dX5_fitsPerson_28 rfl ?_
    refine V_iload_n C 1 dX5_fitsPerson_29 rfl ?_
    refine V_callVi (q := (RX5, TX5, 2)) (rest := []) C (nsX_mem (by decide)) (ceX_1 _) rfl (c_X5_kindAt l D cy ad A G x1 M _ h) (cwV 1 C.1.2.2.2.2 gX5_fitsPerson_X5_kindAt rfl rfl rfl (by decide +kernel) ⟨by decide, by decide⟩) rfl rfl (Nat.le_of_ble_eq_true rfl) dX5_fitsPerson_30 (fun r2 M3 h => ?_)
    refine V_if_lt C 40 dX5_fitsPerson_33 (by decide) (fun q5 => ?_) (fun q5 => ?_)
    · have h := h.1 q5
      refine V_iconst (v := (0 : Int32)) C dX5_fitsPerson_40 (by decide) ?_
      exact V_zret C hr hlk (Or.inl rfl) dX5_fitsPerson_41 h
    · have h := h.2 q5
      refine V_iconst (v := (1 : Int32)) C dX5_fitsPerson_36 (by decide) ?_
      refine V_goto C 41 dX5_fitsPerson_37 (by decide) ?_
      exact V_zret C hr hlk (Or.inr rfl) dX5_fitsPerson_41 h
  · have h := h.2 q1
    by_cases q6 : (x2 - x2 / (4 : Int32) * (4 : Int32)) = 1
    · have h := h.1 q6
      refine V_tswIn C 42 dX5_fitsPerson_3 (by rw [q6]; decide) (by rw [q6]; decide) (by rw [q6]; rfl) (by decide) ?_
      refine V_aload_n C 0 dX5_fitsPerson_42 rfl ?_
      refine V_iload_n C 1 dX5_fitsPerson_43 rfl ?_
      refine V_iconst (v := (0 : Int32)) C dX5_fitsPerson_44 (by decide) ?_
      refine V_bipush (v := (9 : Int32)) C dX5_fitsPerson_45 (by decide) ?_
      refine V_callVi (q := (RX5, TX5, 2)) (rest := []) C (nsX_mem (by decide)) (ceX_1 _) rfl (c_X5_isDigit l D cy ad A G x1 (0 : Int32) (9 : Int32) M _ h) (cwV 3 C.1.2.2.2.2 gX5_fitsPerson_X5_isDigit rfl rfl rfl (by decide +kernel) ⟨by decide, by decide⟩) rfl rfl (Nat.le_of_ble_eq_true rfl) dX5_fitsPerson_47 (fun r7 M8 h => ?_)
      obtain ⟨z9, h⟩ := h
      exact V_zret C hr hlk z9 dX5_fitsPerson_50 h
    · have h := h.2 q6
      by_cases q10 : (x2 - x2 / (4 : Int32) * (4 : Int32)) = 2
      · have h := h.1 q10
        refine V_tswIn C 51 dX5_fitsPerson_3 (by rw [q10]; decide) (by rw [q10]; decide) (by rw [q10]; rfl) (by decide) ?_
        refine V_aload_n C 0 dX5_fitsPerson_51 rfl ?_
        refine V_iload_n C 1 dX5_fitsPerson_52 rfl ?_
        refine V_iconst (v := (0 : Int32)) C dX5_fitsPerson_53 (by decide) ?_
        refine V_bipush (v := (9 : Int32)) C dX5_fitsPerson_54 (by decide) ?_
        refine V_callVi (q := (RX5, TX5, 2)) (rest := []) C (nsX_mem (by decide)) (ceX_1 _) rfl (c_X5_isDigit l D cy ad A G x1 (0 : Int32) (9 : Int32) M _ h) (cwV 3 C.1.2.2.2.2 gX5_fitsPerson_X5_isDigit rfl rfl rfl (by decide +kernel) ⟨by decide, by decide⟩) rfl rfl (Nat.le_of_ble_eq_true rfl) dX5_fitsPerson_56 (fun r11 M12 h => ?_)
        obtain ⟨z13, h⟩ := h
        exact V_zret C hr hlk z13 dX5_fitsPerson_59 h
      · have h := h.2 q10
        refine V_tswOut C 60 dX5_fitsPerson_3 (by have := lv_neT q1 (show (0 : Int32).toInt = 0 by decide); have := lv_neT q6 (show (1 : Int32).toInt = 1 by decide); have := lv_neT q10 (show (2 : Int32).toInt = 2 by decide); omega) (by decide) ?_
        refine V_aload_n C 0 dX5_fitsPerson_60 rfl ?_
        refine V_iload_n C 1 dX5_fitsPerson_61 rfl ?_
        refine V_callVi (q := (RX5, TX5, 2)) (rest := []) C (nsX_mem (by decide)) (ceX_1 _) rfl (c_X5_codeAt l D cy ad A G x1 M _ h) (cwV 1 C.1.2.2.2.2 gX5_fitsPerson_X5_codeAt rfl rfl rfl (by decide +kernel) ⟨by decide, by decide⟩) rfl rfl (Nat.le_of_ble_eq_true rfl) dX5_fitsPerson_62 (fun r14 M15 h => ?_)
        refine V_bipush (v := (44 : Int32)) C dX5_fitsPerson_65 (by decide) ?_
        refine V_icmp_ne C 80 dX5_fitsPerson_67 (by decide) (fun q17 => ?_) (fun q17 => ?_)
        · have h := h.1 q17
          refine V_iconst (v := (0 : Int32)) C dX5_fitsPerson_80 (by decide) ?_
          exact V_zret C hr hlk (Or.inl rfl) dX5_fitsPerson_81 h
        · have h := h.2 q17
          refine V_iload_n C 2 dX5_fitsPerson_70 rfl ?_
          refine V_bipush (v := (16 : Int32)) C dX5_fitsPerson_71 (by decide) ?_
          refine V_icmp_ge C 80 dX5_fitsPerson_73 (by decide) (fun q18 => ?_) (fun q18 => ?_)
          · have h := h.1 q18
            refine V_iconst (v := (0 : Int32)) C dX5_fitsPerson_80 (by decide) ?_
            exact V_zret C hr hlk (Or.inl rfl) dX5_fitsPerson_81 h
          · have h := h.2 q18
            refine V_iconst (v := (1 : Int32)) C dX5_fitsPerson_76 (by decide) ?_
            refine V_goto C 81 dX5_fitsPerson_77 (by decide) ?_
            exact V_zret C hr hlk (Or.inr rfl) dX5_fitsPerson_81 h
def w_X5_fits (x1 : Int32) (x2 : Int32) (M : Mm) (post : Int32 → Mm → Prop) : Prop :=
  ((¬ x1 = 0) → (((¬ x1 = (1 : Int32)) → (((x2 ≤ x1) → (((x1 = x2) → (post (1 : Int32) M)) ∧ ((¬ x1 = x2) → (w_X5_fitsPerson x1 ((x1 - x2) - (1 : Int32)) M (fun r5 M6 => ((r5 = 0) → (post (0 : Int32) M6)) ∧ ((¬ r5 = 0) → (post (1 : Int32) M6))))))) ∧ ((¬ x2 ≤ x1) → (w_X5_fitsPassage x1 M (fun r9 M10 => post r9 M10))))) ∧ ((x1 = (1 : Int32)) → (w_X5_codeAt x1 M (fun r12 M13 => ((¬ r12 = (59 : Int32)) → (post (0 : Int32) M13)) ∧ ((r12 = (59 : Int32)) → (post (1 : Int32) M13))))))) ∧ ((x1 = 0) → (w_X5_isDigit x1 (2 : Int32) (5 : Int32) M (fun r16 M17 => post r16 M17)))
set_option maxHeartbeats 4000000 in
set_option maxRecDepth 100000 in
theorem c_X5_fits (l : Launch) (D : va_G) (cy : Nat → ClassId) (ad : Nat → Nat) (A : Nat → Prop) (G : Gd A ad nsX)   (x1 : Int32) (x2 : Int32) (M : Mm) (post : Int32 → Mm → Prop) (h : w_X5_fits x1 x2 M post) : CI l yX5_fits wsX5_fits (rmL 14) D (tysC cy) A ad nsX (ceX ad cy) (ExX A ad) [.ref (ad 1), .int x1, .int x2] M (fun r M' => (r = 0 ∨ r = 1) ∧ post r M') := by
  refine Met_V (cc := cX5_fits) (maxL := 3) (ret := (some .boolean)) (by decide) rfl G Lo_X ExX_ok (Nat.le_of_ble_eq_true rfl) rfl ?_
  intro p e s m args below meth c C hr hlk
  have C : Cx p s m args c cX5_fits 3 RX5 wsX5_fits D (tysC cy) A ad nsX (ceX ad cy) (ExX A ad) := C
  unfold w_X5_fits at h
  refine V_iload_n C 1 dX5_fits_0 rfl ?_
  refine V_if_ne C 12 dX5_fits_1 (by decide) (fun q1 => ?_) (fun q1 => ?_)
  · have h := h.1 q1
    refine V_iload_n C 1 dX5_fits_12 rfl ?_
    refine V_iconst (v := (1 : Int32)) C dX5_fits_13 (by decide) ?_
    refine V_icmp_ne C 33 dX5_fits_14 (by decide) (fun q2 => ?_) (fun q2 => ?_)
    · have h := h.1 q2
      refine V_iload_n C 1 dX5_fits_33 rfl ?_
      refine V_iload_n C 2 dX5_fits_34 rfl ?_
      refine V_icmp_ge C 44 dX5_fits_35 (by decide) (fun q3 => ?_) (fun q3 => ?_)
      · have h := h.1 q3
        refine V_iload_n C 1 dX5_fits_44 rfl ?_
        refine V_iload_n C 2 dX5_fits_45 rfl ?_
        refine V_icmp_eq C 62 dX5_fits_46 (by decide) (fun q4 => ?_) (fun q4 => ?_)
        · have h := h.1 q4
          refine V_iconst (v := (1 : Int32)) C dX5_fits_62 (by decide) ?_
          refine V_goto C 67 dX5_fits_63 (by decide) ?_
          exact V_zret C hr hlk (Or.inr rfl) dX5_fits_67 h
        · have h := h.2 q4
          refine V_aload_n C 0 dX5_fits_49 rfl ?_
          refine V_iload_n C 1 dX5_fits_50 rfl ?_
          refine V_iload_n C 1 dX5_fits_51 rfl ?_
          refine V_iload_n C 2 dX5_fits_52 rfl ?_
          refine V_isub C dX5_fits_53 ?_
          refine V_iconst (v := (1 : Int32)) C dX5_fits_54 (by decide) ?_
          refine V_isub C dX5_fits_55 ?_
          refine V_callVi (q := (RX5, TX5, 2)) (rest := []) C (nsX_mem (by decide)) (ceX_1 _) rfl (c_X5_fitsPerson l D cy ad A G x1 ((x1 - x2) - (1 : Int32)) M _ h) (cwV 2 C.1.2.2.2.2 gX5_fits_X5_fitsPerson rfl rfl rfl (by decide +kernel) ⟨by decide, by decide⟩) rfl rfl (Nat.le_of_ble_eq_true rfl) dX5_fits_56 (fun r5 M6 h => ?_)
          obtain ⟨z7, h⟩ := h
          refine V_if_eq C 66 dX5_fits_59 (by decide) (fun q8 => ?_) (fun q8 => ?_)
          · have h := h.1 q8
            refine V_iconst (v := (0 : Int32)) C dX5_fits_66 (by decide) ?_
            exact V_zret C hr hlk (Or.inl rfl) dX5_fits_67 h
          · have h := h.2 q8
            refine V_iconst (v := (1 : Int32)) C dX5_fits_62 (by decide) ?_
            refine V_goto C 67 dX5_fits_63 (by decide) ?_
            exact V_zret C hr hlk (Or.inr rfl) dX5_fits_67 h
      · have h := h.2 q3
        refine V_aload_n C 0 dX5_fits_38 rfl ?_
        refine V_iload_n C 1 dX5_fits_39 rfl ?_
        refine V_callVi (q := (RX5, TX5, 2)) (rest := []) C (nsX_mem (by decide)) (ceX_1 _) rfl (c_X5_fitsPassage l D cy ad A G x1 M _ h) (cwV 1 C.1.2.2.2.2 gX5_fits_X5_fitsPassage rfl rfl rfl (by decide +kernel) ⟨by decide, by decide⟩) rfl rfl (Nat.le_of_ble_eq_true rfl) dX5_fits_40 (fun r9 M10 h => ?_)
        obtain ⟨z11, h⟩ := h
        exact V_zret C hr hlk z11 dX5_fits_43 h
    · have h := h.2 q2
      refine V_aload_n C 0 dX5_fits_17 rfl ?_
      refine V_iload_n C 1 dX5_fits_18 rfl ?_
      refine V_callVi (q := (RX5, TX5, 2)) (rest := []) C (nsX_mem (by decide)) (ceX_1 _) rfl (c_X5_codeAt l D cy ad A G x1 M _ h) (cwV 1 C.1.2.2.2.2 gX5_fits_X5_codeAt rfl rfl rfl (by decide +kernel) ⟨by decide, by decide⟩) rfl rfl (Nat.le_of_ble_eq_true rfl) dX5_fits_19 (fun r12 M13 h => ?_)
      refine V_bipush (v := (59 : Int32)) C dX5_fits_22 (by decide) ?_
      refine V_icmp_ne C 31 dX5_fits_24 (by decide) (fun q15 => ?_) (fun q15 => ?_)
      · have h := h.1 q15
        refine V_iconst (v := (0 : Int32)) C dX5_fits_31 (by decide) ?_
        exact V_zret C hr hlk (Or.inl rfl) dX5_fits_32 h
      · have h := h.2 q15
        refine V_iconst (v := (1 : Int32)) C dX5_fits_27 (by decide) ?_
        refine V_goto C 32 dX5_fits_28 (by decide) ?_
        exact V_zret C hr hlk (Or.inr rfl) dX5_fits_32 h
  · have h := h.2 q1
    refine V_aload_n C 0 dX5_fits_4 rfl ?_
    refine V_iload_n C 1 dX5_fits_5 rfl ?_
    refine V_iconst (v := (2 : Int32)) C dX5_fits_6 (by decide) ?_
    refine V_iconst (v := (5 : Int32)) C dX5_fits_7 (by decide) ?_
    refine V_callVi (q := (RX5, TX5, 2)) (rest := []) C (nsX_mem (by decide)) (ceX_1 _) rfl (c_X5_isDigit l D cy ad A G x1 (2 : Int32) (5 : Int32) M _ h) (cwV 3 C.1.2.2.2.2 gX5_fits_X5_isDigit rfl rfl rfl (by decide +kernel) ⟨by decide, by decide⟩) rfl rfl (Nat.le_of_ble_eq_true rfl) dX5_fits_8 (fun r16 M17 h => ?_)
    obtain ⟨z18, h⟩ := h
    exact V_zret C hr hlk z18 dX5_fits_11 h
def w_X5_firstFault_7  (post : Int32 → Mm → Prop)  : Nat → Int32 → Int32 → Mm → Prop
  | 0 => fun _ _ _ => False
  | n + 1 => fun v1 v2 M =>
    (((M.1 1 1) ≤ v2) → (post (M.1 1 1) M)) ∧ ((¬ (M.1 1 1) ≤ v2) → (w_X5_fits v2 v1 M (fun r2 M3 => ((¬ r2 = 0) → (w_X5_firstFault_7  post  n v1 (v2 + 1) M3)) ∧ ((r2 = 0) → (post v2 M3)))))
def w_X5_firstFault  (M : Mm) (post : Int32 → Mm → Prop) : Prop :=
  w_X5_border  M (fun r6 M7 => ∃ n0 : Nat, w_X5_firstFault_7  post  n0 r6 (0 : Int32) M7)
theorem iw_X5_firstFault_X5 : ∀ w ∈ u_ws RX5 TX5 2, w ∈ wsX5_firstFault := by decide +kernel
theorem m_X5_firstFault_f15 : Cond.fieldLink RX5 15 "ShameYards$Page" "size" "I" ∈ wsX5_firstFault := by decide +kernel
set_option maxHeartbeats 4000000 in
set_option maxRecDepth 100000 in
theorem c_X5_firstFault (l : Launch) (D : va_G) (cy : Nat → ClassId) (ad : Nat → Nat) (A : Nat → Prop) (G : Gd A ad nsX)    (M : Mm) (post : Int32 → Mm → Prop) (h : w_X5_firstFault  M post) : CI l yX5_firstFault wsX5_firstFault (rmL 15) D (tysC cy) A ad nsX (ceX ad cy) (ExX A ad) [.ref (ad 1)] M post := by
  refine Met_V (cc := cX5_firstFault) (maxL := 3) (ret := (some .int)) (by decide) rfl G Lo_X ExX_ok (Nat.le_of_ble_eq_true rfl) rfl ?_
  intro p e s m args below meth c C hr hlk
  have C : Cx p s m args c cX5_firstFault 3 RX5 wsX5_firstFault D (tysC cy) A ad nsX (ceX ad cy) (ExX A ad) := C
  have L7 : ∀  (n : Nat) (v1 : Int32) (v2 : Int32) (M : Mm), w_X5_firstFault_7  post  n v1 v2 M → V p l e (rmL 15) s m args below meth c (MQ below (va_Qi post (Wd D (tysC cy) ad nsX (ceX ad cy) (ExX A ad)) A) args s 0 0 A) D A ad nsX (ceX ad cy) 3 M [(0, .ref (ad 1)), (1, .int v1), (2, .int v2)] 7 [] := by
    intro  n
    induction n with
    | zero => intro v1 v2 M h; exact h.elim
    | succ n ih =>
    intro v1 v2 M h 
    unfold w_X5_firstFault_7 at h
    refine V_iload_n C 2 dX5_firstFault_7 rfl ?_
    refine V_aload_n C 0 dX5_firstFault_8 rfl ?_
    refine V_get (k0 := 1) (Cn := RX5) (T := TX5) (N := 2) C (nsX_mem (by decide)) rfl iw_X5_firstFault_X5 (by decide) rfl m_X5_firstFault_f15 (ceX_1 _) rfl dX5_firstFault_9 ?_
    refine V_icmp_ge C 32 dX5_firstFault_12 (by decide) (fun q1 => ?_) (fun q1 => ?_)
    · have h := h.1 q1
      refine V_aload_n C 0 dX5_firstFault_32 rfl ?_
      refine V_get (k0 := 1) (Cn := RX5) (T := TX5) (N := 2) C (nsX_mem (by decide)) rfl iw_X5_firstFault_X5 (by decide) rfl m_X5_firstFault_f15 (ceX_1 _) rfl dX5_firstFault_33 ?_
      exact V_iret C hr hlk dX5_firstFault_36 h
    · have h := h.2 q1
      refine V_aload_n C 0 dX5_firstFault_15 rfl ?_
      refine V_iload_n C 2 dX5_firstFault_16 rfl ?_
      refine V_iload_n C 1 dX5_firstFault_17 rfl ?_
      refine V_callVi (q := (RX5, TX5, 2)) (rest := []) C (nsX_mem (by decide)) (ceX_1 _) rfl (c_X5_fits l D cy ad A G v2 v1 M _ h) (cwV 2 C.1.2.2.2.2 gX5_firstFault_X5_fits rfl rfl rfl (by decide +kernel) ⟨by decide, by decide⟩) rfl rfl (Nat.le_of_ble_eq_true rfl) dX5_firstFault_18 (fun r2 M3 h => ?_)
      obtain ⟨z4, h⟩ := h
      refine V_if_ne C 26 dX5_firstFault_21 (by decide) (fun q5 => ?_) (fun q5 => ?_)
      · have h := h.1 q5
        refine V_iinc (v := (v2 + 1)) (lv' := [(2, .int (v2 + 1)), (0, .ref (ad 1)), (1, .int v1)]) C 2 dX5_firstFault_26 rfl rfl (by decide) rfl ?_
        refine V_goto C 7 dX5_firstFault_29 (by decide) ?_
        refine V_drop (lv' := [(0, .ref (ad 1)), (1, .int v1), (2, .int (v2 + 1))]) [1, 2, 0] rfl ?_
        exact ih v1 (v2 + 1) M3 h 
      · have h := h.2 q5
        refine V_iload_n C 2 dX5_firstFault_24 rfl ?_
        exact V_iret C hr hlk dX5_firstFault_25 h
  unfold w_X5_firstFault at h
  refine V_aload_n C 0 dX5_firstFault_0 rfl ?_
  refine V_callVi (q := (RX5, TX5, 2)) (rest := []) C (nsX_mem (by decide)) (ceX_1 _) rfl (c_X5_border l D cy ad A G  M _ h) (cwV 0 C.1.2.2.2.2 gX5_firstFault_X5_border rfl rfl rfl (by decide +kernel) ⟨by decide, by decide⟩) rfl rfl (Nat.le_of_ble_eq_true rfl) dX5_firstFault_1 (fun r6 M7 h => ?_)
  refine V_istore_n (lv' := [(1, .int r6), (0, .ref (ad 1))]) C dX5_firstFault_4 rfl (by decide) rfl ?_
  refine V_iconst (v := (0 : Int32)) C dX5_firstFault_5 (by decide) ?_
  refine V_istore_n (lv' := [(2, .int (0 : Int32)), (1, .int r6), (0, .ref (ad 1))]) C dX5_firstFault_6 rfl (by decide) rfl ?_
  refine V_drop (lv' := [(0, .ref (ad 1)), (1, .int r6), (2, .int (0 : Int32))]) [2, 1, 0] rfl ?_
  obtain ⟨n0, h⟩ := h
  exact L7  n0 r6 (0 : Int32) M7 h 
def w_X5_isWhole  (M : Mm) (post : Int32 → Mm → Prop) : Prop :=
  w_X5_border  M (fun r1 M2 => ((((M.1 1 1) - r1) ≤ 0) → (post (0 : Int32) M2)) ∧ ((¬ ((M.1 1 1) - r1) ≤ 0) → (((¬ (((M.1 1 1) - r1) - ((M.1 1 1) - r1) / (4 : Int32) * (4 : Int32)) = 0) → (post (0 : Int32) M2)) ∧ (((((M.1 1 1) - r1) - ((M.1 1 1) - r1) / (4 : Int32) * (4 : Int32)) = 0) → (w_X5_firstFault  M2 (fun r6 M7 => ((¬ r6 = (M7.1 1 1)) → (post (0 : Int32) M7)) ∧ ((r6 = (M7.1 1 1)) → (post (1 : Int32) M7))))))))
theorem iw_X5_isWhole_X5 : ∀ w ∈ u_ws RX5 TX5 2, w ∈ wsX5_isWhole := by decide +kernel
theorem m_X5_isWhole_f15 : Cond.fieldLink RX5 15 "ShameYards$Page" "size" "I" ∈ wsX5_isWhole := by decide +kernel
set_option maxHeartbeats 4000000 in
set_option maxRecDepth 100000 in
theorem c_X5_isWhole (l : Launch) (D : va_G) (cy : Nat → ClassId) (ad : Nat → Nat) (A : Nat → Prop) (G : Gd A ad nsX)    (M : Mm) (post : Int32 → Mm → Prop) (h : w_X5_isWhole  M post) : CI l yX5_isWhole wsX5_isWhole (rmL 16) D (tysC cy) A ad nsX (ceX ad cy) (ExX A ad) [.ref (ad 1)] M (fun r M' => (r = 0 ∨ r = 1) ∧ post r M') := by
  refine Met_V (cc := cX5_isWhole) (maxL := 2) (ret := (some .boolean)) (by decide) rfl G Lo_X ExX_ok (Nat.le_of_ble_eq_true rfl) rfl ?_
  intro p e s m args below meth c C hr hlk
  have C : Cx p s m args c cX5_isWhole 2 RX5 wsX5_isWhole D (tysC cy) A ad nsX (ceX ad cy) (ExX A ad) := C
  unfold w_X5_isWhole at h
  refine V_aload_n C 0 dX5_isWhole_0 rfl ?_
  refine V_get (k0 := 1) (Cn := RX5) (T := TX5) (N := 2) C (nsX_mem (by decide)) rfl iw_X5_isWhole_X5 (by decide) rfl m_X5_isWhole_f15 (ceX_1 _) rfl dX5_isWhole_1 ?_
  refine V_aload_n C 0 dX5_isWhole_4 rfl ?_
  refine V_callVi (q := (RX5, TX5, 2)) (rest := [.int (M.1 1 1)]) C (nsX_mem (by decide)) (ceX_1 _) rfl (c_X5_border l D cy ad A G  M _ h) (cwV 0 C.1.2.2.2.2 gX5_isWhole_X5_border rfl rfl rfl (by decide +kernel) ⟨by decide, by decide⟩) rfl rfl (Nat.le_of_ble_eq_true rfl) dX5_isWhole_5 (fun r1 M2 h => ?_)
  refine V_isub C dX5_isWhole_8 ?_
  refine V_istore_n (lv' := [(1, .int ((M.1 1 1) - r1)), (0, .ref (ad 1))]) C dX5_isWhole_9 rfl (by decide) rfl ?_
  refine V_iload_n C 0 dX5_isWhole_10 rfl ?_
  refine V_if_le C 35 dX5_isWhole_11 (by decide) (fun q4 => ?_) (fun q4 => ?_)
  · have h := h.1 q4
    refine V_iconst (v := (0 : Int32)) C dX5_isWhole_35 (by decide) ?_
    exact V_zret C hr hlk (Or.inl rfl) dX5_isWhole_36 h
  · have h := h.2 q4
    refine V_iload_n C 0 dX5_isWhole_14 rfl ?_
    refine V_iconst (v := (4 : Int32)) C dX5_isWhole_15 (by decide) ?_
    refine V_irem C dX5_isWhole_16 (by decide) ?_
    refine V_if_ne C 35 dX5_isWhole_17 (by decide) (fun q5 => ?_) (fun q5 => ?_)
    · have h := h.1 q5
      refine V_iconst (v := (0 : Int32)) C dX5_isWhole_35 (by decide) ?_
      exact V_zret C hr hlk (Or.inl rfl) dX5_isWhole_36 h
    · have h := h.2 q5
      refine V_aload_n C 1 dX5_isWhole_20 rfl ?_
      refine V_callVi (q := (RX5, TX5, 2)) (rest := []) C (nsX_mem (by decide)) (ceX_1 _) rfl (c_X5_firstFault l D cy ad A G  M2 _ h) (cwV 0 C.1.2.2.2.2 gX5_isWhole_X5_firstFault rfl rfl rfl (by decide +kernel) ⟨by decide, by decide⟩) rfl rfl (Nat.le_of_ble_eq_true rfl) dX5_isWhole_21 (fun r6 M7 h => ?_)
      refine V_aload_n C 1 dX5_isWhole_24 rfl ?_
      refine V_get (k0 := 1) (Cn := RX5) (T := TX5) (N := 2) C (nsX_mem (by decide)) rfl iw_X5_isWhole_X5 (by decide) rfl m_X5_isWhole_f15 (ceX_1 _) rfl dX5_isWhole_25 ?_
      refine V_icmp_ne C 35 dX5_isWhole_28 (by decide) (fun q9 => ?_) (fun q9 => ?_)
      · have h := h.1 q9
        refine V_iconst (v := (0 : Int32)) C dX5_isWhole_35 (by decide) ?_
        exact V_zret C hr hlk (Or.inl rfl) dX5_isWhole_36 h
      · have h := h.2 q9
        refine V_iconst (v := (1 : Int32)) C dX5_isWhole_31 (by decide) ?_
        refine V_goto C 36 dX5_isWhole_32 (by decide) ?_
        exact V_zret C hr hlk (Or.inr rfl) dX5_isWhole_36 h
def w_X2_settle_109 (b : Nat) (post : Mm → Prop)  : Nat → Int32 → Int32 → Mm → Prop
  | 0 => fun _ _ _ => False
  | n + 1 => fun v2 v3 M =>
    (((M.1 b 3) ≤ v3) → (∀ M2 : Mm, M2 = wI M b (upd (M.1 b) 12 (0 : Int32)) → (∀ M4 : Mm, M4 = wI M2 b (upd (M2.1 b) 13 (0 : Int32)) → (post M4)))) ∧ ((¬ (M.1 b 3) ≤ v3) → (w_X5_kindAt ((v2 + (1 : Int32)) + ((4 : Int32) * v3)) M (fun r6 M7 => (vp_in v3 5) ∧ (∀ M10 : Mm, M10 = wI M7 (b + 10) (upd (M7.1 (b + 10)) v3.toNatClampNeg r6) → (w_X5_digitAt (((v2 + (1 : Int32)) + ((4 : Int32) * v3)) + (1 : Int32)) M10 (fun r12 M13 => ∀ M15 : Mm, M15 = wI M13 (b + 11) (upd (M13.1 (b + 11)) v3.toNatClampNeg r12) → (w_X5_digitAt (((v2 + (1 : Int32)) + ((4 : Int32) * v3)) + (2 : Int32)) M15 (fun r17 M18 => ∀ M20 : Mm, M20 = wI M18 (b + 12) (upd (M18.1 (b + 12)) v3.toNatClampNeg r17) → (∀ M22 : Mm, M22 = wI M20 (b + 13) (upd (M20.1 (b + 13)) v3.toNatClampNeg (0 : Int32)) → (∀ M24 : Mm, M24 = wI M22 (b + 14) (upd (M22.1 (b + 14)) v3.toNatClampNeg (0 : Int32)) → (w_X2_settle_109 b post  n v2 (v3 + 1) M24)))))))))))
def w_X2_settle_46 (b : Nat) (post : Mm → Prop)  : Nat → Int32 → Int32 → Mm → Prop
  | 0 => fun _ _ _ => False
  | n + 1 => fun v2 v3 M =>
    (((M.1 b 2) ≤ v3) → (∃ n0 : Nat, w_X2_settle_109 b post  n0 v2 (0 : Int32) M)) ∧ ((¬ (M.1 b 2) ≤ v3) → (w_X5_digitAt ((2 : Int32) + ((4 : Int32) * v3)) M (fun r27 M28 => (vp_in v3 7) ∧ (∀ M31 : Mm, M31 = wI M28 (b + 7) (upd (M28.1 (b + 7)) v3.toNatClampNeg r27) → (w_X5_digitAt (((2 : Int32) + ((4 : Int32) * v3)) + (1 : Int32)) M31 (fun r33 M34 => ∀ M36 : Mm, M36 = wI M34 (b + 8) (upd (M34.1 (b + 8)) v3.toNatClampNeg r33) → (w_X5_digitAt (((2 : Int32) + ((4 : Int32) * v3)) + (2 : Int32)) M36 (fun r38 M39 => ∀ M41 : Mm, M41 = wI M39 (b + 9) (upd (M39.1 (b + 9)) v3.toNatClampNeg r38) → (w_X2_settle_46 b post  n v2 (v3 + 1) M41)))))))))
def w_X2_settle (b : Nat)  (M : Mm) (post : Mm → Prop) : Prop :=
  w_X5_border  M (fun r43 M44 => w_X5_digitAt (0 : Int32) M44 (fun r46 M47 => ∀ M49 : Mm, M49 = wI M47 b (upd (M47.1 b) 1 r46) → (∀ M51 : Mm, M51 = wI M49 b (upd (M49.1 b) 2 (if (7 : Int32) < ((r43 - (1 : Int32)) / (4 : Int32)) then (7 : Int32) else ((r43 - (1 : Int32)) / (4 : Int32)))) → (∀ M53 : Mm, M53 = wI M51 b (upd (M51.1 b) 3 (if (5 : Int32) < (((M51.1 1 1) - r43) / (4 : Int32)) then (5 : Int32) else (((M51.1 1 1) - r43) / (4 : Int32)))) → (∃ n0 : Nat, w_X2_settle_46 b post  n0 r43 (0 : Int32) M53)))))
theorem iw_X2_settle_X2 : ∀ w ∈ u_ws RX2 TX2 18, w ∈ wsX2_settle := by decide +kernel
theorem iw_X2_settle_X5 : ∀ w ∈ u_ws RX5 TX5 2, w ∈ wsX2_settle := by decide +kernel
theorem m_X2_settle_f93 : Cond.fieldLink RX2 93 "ShameYards$House" "peopleCount" "I" ∈ wsX2_settle := by decide +kernel
theorem m_X2_settle_f99 : Cond.fieldLink RX2 99 "ShameYards$House" "walksTogether" "I" ∈ wsX2_settle := by decide +kernel
theorem m_X2_settle_f102 : Cond.fieldLink RX2 102 "ShameYards$House" "seenCount" "I" ∈ wsX2_settle := by decide +kernel
theorem m_X2_settle_f40 : Cond.fieldLink RX2 40 "ShameYards$House" "kinds" "[I" ∈ wsX2_settle := by decide +kernel
theorem m_X2_settle_f43 : Cond.fieldLink RX2 43 "ShameYards$House" "deeds" "[I" ∈ wsX2_settle := by decide +kernel
theorem m_X2_settle_f46 : Cond.fieldLink RX2 46 "ShameYards$House" "lies" "[I" ∈ wsX2_settle := by decide +kernel
theorem m_X2_settle_f49 : Cond.fieldLink RX2 49 "ShameYards$House" "places" "[I" ∈ wsX2_settle := by decide +kernel
theorem m_X2_settle_f52 : Cond.fieldLink RX2 52 "ShameYards$House" "taken" "[I" ∈ wsX2_settle := by decide +kernel
theorem m_X2_settle_f87 : Cond.fieldLink RX2 87 "ShameYards$House" "passageCount" "I" ∈ wsX2_settle := by decide +kernel
theorem m_X2_settle_f30 : Cond.fieldLink RX2 30 "ShameYards$House" "oneEnd" "[I" ∈ wsX2_settle := by decide +kernel
theorem m_X2_settle_f34 : Cond.fieldLink RX2 34 "ShameYards$House" "otherEnd" "[I" ∈ wsX2_settle := by decide +kernel
theorem m_X2_settle_f37 : Cond.fieldLink RX2 37 "ShameYards$House" "lengths" "[I" ∈ wsX2_settle := by decide +kernel
theorem m_X2_settle_f77 : Cond.fieldLink RX2 77 "ShameYards$House" "roomCount" "I" ∈ wsX2_settle := by decide +kernel
theorem m_X2_settle_l81 : Cond.methodLink RX2 81 Lib.Math.min.name ∈ wsX2_settle := by decide +kernel
theorem m_X2_settle_smin : Cond.static Lib.Math.min.name ∈ wsX2_settle := by decide +kernel
theorem m_X2_settle_imath : Cond.initialized "java/lang/Math" ∈ wsX2_settle := by decide +kernel
theorem m_X2_settle_kmin : Cond.code Lib.Math.min.name Lib.Math.min.code 2 (some .int) ∈ wsX2_settle := by decide +kernel
theorem m_X2_settle_f90 : Cond.fieldLink RX2 90 "ShameYards$Page" "size" "I" ∈ wsX2_settle := by decide +kernel
set_option maxHeartbeats 4000000 in
set_option maxRecDepth 100000 in
theorem c_X2_settle (l : Launch) (D : va_G) (cy : Nat → ClassId) (ad : Nat → Nat) (A : Nat → Prop) (G : Gd A ad nsX) (b : Nat) (h_b : isH b)  (M : Mm) (post : Mm → Prop) (h : w_X2_settle b M post) : CV l yX2_settle wsX2_settle (rmL 13) D (tysC cy) A ad nsX (ceX ad cy) (ExX A ad) [.ref (ad b), .ref (ad 1)] M post := by
  refine Met_V (cc := cX2_settle) (maxL := 5) (ret := none) (by decide) rfl G Lo_X ExX_ok (Nat.le_of_ble_eq_true rfl) rfl ?_
  intro p e s m args below meth c C hr hlk
  have C : Cx p s m args c cX2_settle 5 RX2 wsX2_settle D (tysC cy) A ad nsX (ceX ad cy) (ExX A ad) := C
  have L109 : ∀  (n : Nat) (v2 : Int32) (v3 : Int32) (M : Mm), w_X2_settle_109 b post  n v2 v3 M → V p l e (rmL 13) s m args below meth c (MQ below (va_Qv post (Wd D (tysC cy) ad nsX (ceX ad cy) (ExX A ad)) A) args s 0 0 A) D A ad nsX (ceX ad cy) 5 M [(0, .ref (ad b)), (1, .ref (ad 1)), (2, .int v2), (3, .int v3)] 109 [] := by
    intro  n
    induction n with
    | zero => intro v2 v3 M h; exact h.elim
    | succ n ih =>
    intro v2 v3 M h 
    unfold w_X2_settle_109 at h
    refine V_iload_n C 3 dX2_settle_109 rfl ?_
    refine V_aload_n C 0 dX2_settle_110 rfl ?_
    refine V_get (k0 := 3) (Cn := RX2) (T := TX2) (N := 18) C (hs_mem0 h_b) rfl iw_X2_settle_X2 (by decide) rfl m_X2_settle_f93 ((ceX_H h_b) _) rfl dX2_settle_111 ?_
    refine V_icmp_ge C 186 dX2_settle_114 (by decide) (fun q1 => ?_) (fun q1 => ?_)
    · have h := h.1 q1
      refine V_aload_n C 0 dX2_settle_186 rfl ?_
      refine V_iconst (v := (0 : Int32)) C dX2_settle_187 (by decide) ?_
      refine V_putI (k0 := 12) (Cn := RX2) (T := TX2) (N := 18) C (hs_mem0 h_b) rfl iw_X2_settle_X2 (by decide) rfl m_X2_settle_f99 tyX2_ok nmX2 rfl (show _ = some FieldType.int by decide +kernel) rfl rfl (Nat.le_of_ble_eq_true rfl) ((ceX_H h_b) _) (stXH_12 h_b _ _) dX2_settle_188 (fun M2 e3 => ?_)
      have h := h M2 e3
      refine V_aload_n C 0 dX2_settle_191 rfl ?_
      refine V_iconst (v := (0 : Int32)) C dX2_settle_192 (by decide) ?_
      refine V_putI (k0 := 13) (Cn := RX2) (T := TX2) (N := 18) C (hs_mem0 h_b) rfl iw_X2_settle_X2 (by decide) rfl m_X2_settle_f102 tyX2_ok nmX2 rfl (show _ = some FieldType.int by decide +kernel) rfl rfl (Nat.le_of_ble_eq_true rfl) ((ceX_H h_b) _) (stXH_13 h_b _ _) dX2_settle_193 (fun M4 e5 => ?_)
      have h := h M4 e5
      exact V_vret C hr hlk dX2_settle_196 h
    · have h := h.2 q1
      refine V_iload_n C 2 dX2_settle_117 rfl ?_
      refine V_iconst (v := (1 : Int32)) C dX2_settle_118 (by decide) ?_
      refine V_iadd C dX2_settle_119 ?_
      refine V_iconst (v := (4 : Int32)) C dX2_settle_120 (by decide) ?_
      refine V_iload_n C 3 dX2_settle_121 rfl ?_
      refine V_imul C dX2_settle_122 ?_
      refine V_iadd C dX2_settle_123 ?_
      refine V_istore (lv' := [(4, .int ((v2 + (1 : Int32)) + ((4 : Int32) * v3))), (0, .ref (ad b)), (1, .ref (ad 1)), (2, .int v2), (3, .int v3)]) C dX2_settle_124 (by decide) rfl ?_
      refine V_aload_n C 1 dX2_settle_126 rfl ?_
      refine V_get (k0 := 7) (Cn := RX2) (T := TX2) (N := 18) C (hs_mem0 h_b) rfl iw_X2_settle_X2 (by decide) rfl m_X2_settle_f40 ((ceX_H h_b) _) rfl dX2_settle_127 ?_
      refine V_iload_n C 4 dX2_settle_130 rfl ?_
      refine V_aload_n C 2 dX2_settle_131 rfl ?_
      refine V_iload C 0 dX2_settle_132 rfl ?_
      refine V_callVi (q := (RX5, TX5, 2)) (rest := [.int v3, .ref (ad (b + 10))]) C (nsX_mem (by decide)) (ceX_1 _) rfl (c_X5_kindAt l D cy ad A G ((v2 + (1 : Int32)) + ((4 : Int32) * v3)) M _ h) (cwV 1 C.1.2.2.2.2 gX2_settle_X5_kindAt rfl rfl rfl (by decide +kernel) ⟨by decide, by decide⟩) rfl rfl (Nat.le_of_ble_eq_true rfl) dX2_settle_134 (fun r6 M7 h => ?_)
      have g9 := h.1
      have h := h.2
      refine V_iast (t0 := 1) (L := 5) C (hs_mem h_b (by decide)) (hs_10 h_b) rfl g9 dX2_settle_137 (fun M10 e11 => ?_)
      have h := h M10 e11
      refine V_aload_n C 1 dX2_settle_138 rfl ?_
      refine V_get (k0 := 8) (Cn := RX2) (T := TX2) (N := 18) C (hs_mem0 h_b) rfl iw_X2_settle_X2 (by decide) rfl m_X2_settle_f43 ((ceX_H h_b) _) rfl dX2_settle_139 ?_
      refine V_iload_n C 4 dX2_settle_142 rfl ?_
      refine V_aload_n C 2 dX2_settle_143 rfl ?_
      refine V_iload C 0 dX2_settle_144 rfl ?_
      refine V_iconst (v := (1 : Int32)) C dX2_settle_146 (by decide) ?_
      refine V_iadd C dX2_settle_147 ?_
      refine V_callVi (q := (RX5, TX5, 2)) (rest := [.int v3, .ref (ad (b + 11))]) C (nsX_mem (by decide)) (ceX_1 _) rfl (c_X5_digitAt l D cy ad A G (((v2 + (1 : Int32)) + ((4 : Int32) * v3)) + (1 : Int32)) M10 _ h) (cwV 1 C.1.2.2.2.2 gX2_settle_X5_digitAt rfl rfl rfl (by decide +kernel) ⟨by decide, by decide⟩) rfl rfl (Nat.le_of_ble_eq_true rfl) dX2_settle_148 (fun r12 M13 h => ?_)
      refine V_iast (t0 := 1) (L := 5) C (hs_mem h_b (by decide)) (hs_11 h_b) rfl g9 dX2_settle_151 (fun M15 e16 => ?_)
      have h := h M15 e16
      refine V_aload_n C 1 dX2_settle_152 rfl ?_
      refine V_get (k0 := 9) (Cn := RX2) (T := TX2) (N := 18) C (hs_mem0 h_b) rfl iw_X2_settle_X2 (by decide) rfl m_X2_settle_f46 ((ceX_H h_b) _) rfl dX2_settle_153 ?_
      refine V_iload_n C 4 dX2_settle_156 rfl ?_
      refine V_aload_n C 2 dX2_settle_157 rfl ?_
      refine V_iload C 0 dX2_settle_158 rfl ?_
      refine V_iconst (v := (2 : Int32)) C dX2_settle_160 (by decide) ?_
      refine V_iadd C dX2_settle_161 ?_
      refine V_callVi (q := (RX5, TX5, 2)) (rest := [.int v3, .ref (ad (b + 12))]) C (nsX_mem (by decide)) (ceX_1 _) rfl (c_X5_digitAt l D cy ad A G (((v2 + (1 : Int32)) + ((4 : Int32) * v3)) + (2 : Int32)) M15 _ h) (cwV 1 C.1.2.2.2.2 gX2_settle_X5_digitAt rfl rfl rfl (by decide +kernel) ⟨by decide, by decide⟩) rfl rfl (Nat.le_of_ble_eq_true rfl) dX2_settle_162 (fun r17 M18 h => ?_)
      refine V_iast (t0 := 1) (L := 5) C (hs_mem h_b (by decide)) (hs_12 h_b) rfl g9 dX2_settle_165 (fun M20 e21 => ?_)
      have h := h M20 e21
      refine V_aload_n C 1 dX2_settle_166 rfl ?_
      refine V_get (k0 := 10) (Cn := RX2) (T := TX2) (N := 18) C (hs_mem0 h_b) rfl iw_X2_settle_X2 (by decide) rfl m_X2_settle_f49 ((ceX_H h_b) _) rfl dX2_settle_167 ?_
      refine V_iload_n C 4 dX2_settle_170 rfl ?_
      refine V_iconst (v := (0 : Int32)) C dX2_settle_171 (by decide) ?_
      refine V_iast (t0 := 1) (L := 5) C (hs_mem h_b (by decide)) (hs_13 h_b) rfl g9 dX2_settle_172 (fun M22 e23 => ?_)
      have h := h M22 e23
      refine V_aload_n C 1 dX2_settle_173 rfl ?_
      refine V_get (k0 := 11) (Cn := RX2) (T := TX2) (N := 18) C (hs_mem0 h_b) rfl iw_X2_settle_X2 (by decide) rfl m_X2_settle_f52 ((ceX_H h_b) _) rfl dX2_settle_174 ?_
      refine V_iload_n C 4 dX2_settle_177 rfl ?_
      refine V_iconst (v := (0 : Int32)) C dX2_settle_178 (by decide) ?_
      refine V_iast (t0 := 1) (L := 5) C (hs_mem h_b (by decide)) (hs_14 h_b) rfl g9 dX2_settle_179 (fun M24 e25 => ?_)
      have h := h M24 e25
      refine V_iinc (v := (v3 + 1)) (lv' := [(3, .int (v3 + 1)), (4, .int ((v2 + (1 : Int32)) + ((4 : Int32) * v3))), (0, .ref (ad b)), (1, .ref (ad 1)), (2, .int v2)]) C 4 dX2_settle_180 rfl rfl (by decide) rfl ?_
      refine V_goto C 109 dX2_settle_183 (by decide) ?_
      refine V_drop (lv' := [(0, .ref (ad b)), (1, .ref (ad 1)), (2, .int v2), (3, .int (v3 + 1))]) [2, 3, 4, 0] rfl ?_
      exact ih v2 (v3 + 1) M24 h 
  have L46 : ∀  (n : Nat) (v2 : Int32) (v3 : Int32) (M : Mm), w_X2_settle_46 b post  n v2 v3 M → V p l e (rmL 13) s m args below meth c (MQ below (va_Qv post (Wd D (tysC cy) ad nsX (ceX ad cy) (ExX A ad)) A) args s 0 0 A) D A ad nsX (ceX ad cy) 5 M [(0, .ref (ad b)), (1, .ref (ad 1)), (2, .int v2), (3, .int v3)] 46 [] := by
    intro  n
    induction n with
    | zero => intro v2 v3 M h; exact h.elim
    | succ n ih =>
    intro v2 v3 M h 
    unfold w_X2_settle_46 at h
    refine V_iload_n C 3 dX2_settle_46 rfl ?_
    refine V_aload_n C 0 dX2_settle_47 rfl ?_
    refine V_get (k0 := 2) (Cn := RX2) (T := TX2) (N := 18) C (hs_mem0 h_b) rfl iw_X2_settle_X2 (by decide) rfl m_X2_settle_f87 ((ceX_H h_b) _) rfl dX2_settle_48 ?_
    refine V_icmp_ge C 107 dX2_settle_51 (by decide) (fun q26 => ?_) (fun q26 => ?_)
    · have h := h.1 q26
      refine V_iconst (v := (0 : Int32)) C dX2_settle_107 (by decide) ?_
      refine V_istore_n (lv' := [(3, .int (0 : Int32)), (0, .ref (ad b)), (1, .ref (ad 1)), (2, .int v2)]) C dX2_settle_108 rfl (by decide) rfl ?_
      refine V_drop (lv' := [(0, .ref (ad b)), (1, .ref (ad 1)), (2, .int v2), (3, .int (0 : Int32))]) [1, 2, 3, 0] rfl ?_
      obtain ⟨n0, h⟩ := h
      exact L109  n0 v2 (0 : Int32) M h 
    · have h := h.2 q26
      refine V_iconst (v := (2 : Int32)) C dX2_settle_54 (by decide) ?_
      refine V_iconst (v := (4 : Int32)) C dX2_settle_55 (by decide) ?_
      refine V_iload_n C 3 dX2_settle_56 rfl ?_
      refine V_imul C dX2_settle_57 ?_
      refine V_iadd C dX2_settle_58 ?_
      refine V_istore (lv' := [(4, .int ((2 : Int32) + ((4 : Int32) * v3))), (0, .ref (ad b)), (1, .ref (ad 1)), (2, .int v2), (3, .int v3)]) C dX2_settle_59 (by decide) rfl ?_
      refine V_aload_n C 1 dX2_settle_61 rfl ?_
      refine V_get (k0 := 4) (Cn := RX2) (T := TX2) (N := 18) C (hs_mem0 h_b) rfl iw_X2_settle_X2 (by decide) rfl m_X2_settle_f30 ((ceX_H h_b) _) rfl dX2_settle_62 ?_
      refine V_iload_n C 4 dX2_settle_65 rfl ?_
      refine V_aload_n C 2 dX2_settle_66 rfl ?_
      refine V_iload C 0 dX2_settle_67 rfl ?_
      refine V_callVi (q := (RX5, TX5, 2)) (rest := [.int v3, .ref (ad (b + 7))]) C (nsX_mem (by decide)) (ceX_1 _) rfl (c_X5_digitAt l D cy ad A G ((2 : Int32) + ((4 : Int32) * v3)) M _ h) (cwV 1 C.1.2.2.2.2 gX2_settle_X5_digitAt rfl rfl rfl (by decide +kernel) ⟨by decide, by decide⟩) rfl rfl (Nat.le_of_ble_eq_true rfl) dX2_settle_69 (fun r27 M28 h => ?_)
      have g30 := h.1
      have h := h.2
      refine V_iast (t0 := 1) (L := 7) C (hs_mem h_b (by decide)) (hs_7 h_b) rfl g30 dX2_settle_72 (fun M31 e32 => ?_)
      have h := h M31 e32
      refine V_aload_n C 1 dX2_settle_73 rfl ?_
      refine V_get (k0 := 5) (Cn := RX2) (T := TX2) (N := 18) C (hs_mem0 h_b) rfl iw_X2_settle_X2 (by decide) rfl m_X2_settle_f34 ((ceX_H h_b) _) rfl dX2_settle_74 ?_
      refine V_iload_n C 4 dX2_settle_77 rfl ?_
      refine V_aload_n C 2 dX2_settle_78 rfl ?_
      refine V_iload C 0 dX2_settle_79 rfl ?_
      refine V_iconst (v := (1 : Int32)) C dX2_settle_81 (by decide) ?_
      refine V_iadd C dX2_settle_82 ?_
      refine V_callVi (q := (RX5, TX5, 2)) (rest := [.int v3, .ref (ad (b + 8))]) C (nsX_mem (by decide)) (ceX_1 _) rfl (c_X5_digitAt l D cy ad A G (((2 : Int32) + ((4 : Int32) * v3)) + (1 : Int32)) M31 _ h) (cwV 1 C.1.2.2.2.2 gX2_settle_X5_digitAt rfl rfl rfl (by decide +kernel) ⟨by decide, by decide⟩) rfl rfl (Nat.le_of_ble_eq_true rfl) dX2_settle_83 (fun r33 M34 h => ?_)
      refine V_iast (t0 := 1) (L := 7) C (hs_mem h_b (by decide)) (hs_8 h_b) rfl g30 dX2_settle_86 (fun M36 e37 => ?_)
      have h := h M36 e37
      refine V_aload_n C 1 dX2_settle_87 rfl ?_
      refine V_get (k0 := 6) (Cn := RX2) (T := TX2) (N := 18) C (hs_mem0 h_b) rfl iw_X2_settle_X2 (by decide) rfl m_X2_settle_f37 ((ceX_H h_b) _) rfl dX2_settle_88 ?_
      refine V_iload_n C 4 dX2_settle_91 rfl ?_
      refine V_aload_n C 2 dX2_settle_92 rfl ?_
      refine V_iload C 0 dX2_settle_93 rfl ?_
      refine V_iconst (v := (2 : Int32)) C dX2_settle_95 (by decide) ?_
      refine V_iadd C dX2_settle_96 ?_
      refine V_callVi (q := (RX5, TX5, 2)) (rest := [.int v3, .ref (ad (b + 9))]) C (nsX_mem (by decide)) (ceX_1 _) rfl (c_X5_digitAt l D cy ad A G (((2 : Int32) + ((4 : Int32) * v3)) + (2 : Int32)) M36 _ h) (cwV 1 C.1.2.2.2.2 gX2_settle_X5_digitAt rfl rfl rfl (by decide +kernel) ⟨by decide, by decide⟩) rfl rfl (Nat.le_of_ble_eq_true rfl) dX2_settle_97 (fun r38 M39 h => ?_)
      refine V_iast (t0 := 1) (L := 7) C (hs_mem h_b (by decide)) (hs_9 h_b) rfl g30 dX2_settle_100 (fun M41 e42 => ?_)
      have h := h M41 e42
      refine V_iinc (v := (v3 + 1)) (lv' := [(3, .int (v3 + 1)), (4, .int ((2 : Int32) + ((4 : Int32) * v3))), (0, .ref (ad b)), (1, .ref (ad 1)), (2, .int v2)]) C 4 dX2_settle_101 rfl rfl (by decide) rfl ?_
      refine V_goto C 46 dX2_settle_104 (by decide) ?_
      refine V_drop (lv' := [(0, .ref (ad b)), (1, .ref (ad 1)), (2, .int v2), (3, .int (v3 + 1))]) [2, 3, 4, 0] rfl ?_
      exact ih v2 (v3 + 1) M41 h 
  unfold w_X2_settle at h
  refine V_aload_n C 1 dX2_settle_0 rfl ?_
  refine V_callVi (q := (RX5, TX5, 2)) (rest := []) C (nsX_mem (by decide)) (ceX_1 _) rfl (c_X5_border l D cy ad A G  M _ h) (cwV 0 C.1.2.2.2.2 gX2_settle_X5_border rfl rfl rfl (by decide +kernel) ⟨by decide, by decide⟩) rfl rfl (Nat.le_of_ble_eq_true rfl) dX2_settle_1 (fun r43 M44 h => ?_)
  refine V_istore_n (lv' := [(2, .int r43), (0, .ref (ad b)), (1, .ref (ad 1))]) C dX2_settle_4 rfl (by decide) rfl ?_
  refine V_aload_n C 1 dX2_settle_5 rfl ?_
  refine V_aload_n C 2 dX2_settle_6 rfl ?_
  refine V_iconst (v := (0 : Int32)) C dX2_settle_7 (by decide) ?_
  refine V_callVi (q := (RX5, TX5, 2)) (rest := [.ref (ad b)]) C (nsX_mem (by decide)) (ceX_1 _) rfl (c_X5_digitAt l D cy ad A G (0 : Int32) M44 _ h) (cwV 1 C.1.2.2.2.2 gX2_settle_X5_digitAt rfl rfl rfl (by decide +kernel) ⟨by decide, by decide⟩) rfl rfl (Nat.le_of_ble_eq_true rfl) dX2_settle_8 (fun r46 M47 h => ?_)
  refine V_putI (k0 := 1) (Cn := RX2) (T := TX2) (N := 18) C (hs_mem0 h_b) rfl iw_X2_settle_X2 (by decide) rfl m_X2_settle_f77 tyX2_ok nmX2 rfl (show _ = some FieldType.int by decide +kernel) rfl rfl (Nat.le_of_ble_eq_true rfl) ((ceX_H h_b) _) (stXH_1 h_b _ _) dX2_settle_11 (fun M49 e50 => ?_)
  have h := h M49 e50
  refine V_aload_n C 1 dX2_settle_14 rfl ?_
  refine V_iload_n C 0 dX2_settle_15 rfl ?_
  refine V_iconst (v := (1 : Int32)) C dX2_settle_16 (by decide) ?_
  refine V_isub C dX2_settle_17 ?_
  refine V_iconst (v := (4 : Int32)) C dX2_settle_18 (by decide) ?_
  refine V_idiv C dX2_settle_19 (by decide) ?_
  refine V_bipush (v := (7 : Int32)) C dX2_settle_20 (by decide) ?_
  refine V_mmin C m_X2_settle_l81 m_X2_settle_smin m_X2_settle_imath m_X2_settle_kmin (by decide) (Nat.le_of_ble_eq_true rfl) dX2_settle_22 ?_
  refine V_putI (k0 := 2) (Cn := RX2) (T := TX2) (N := 18) C (hs_mem0 h_b) rfl iw_X2_settle_X2 (by decide) rfl m_X2_settle_f87 tyX2_ok nmX2 rfl (show _ = some FieldType.int by decide +kernel) rfl rfl (Nat.le_of_ble_eq_true rfl) ((ceX_H h_b) _) (stXH_2 h_b _ _) dX2_settle_25 (fun M51 e52 => ?_)
  have h := h M51 e52
  refine V_aload_n C 1 dX2_settle_28 rfl ?_
  refine V_aload_n C 2 dX2_settle_29 rfl ?_
  refine V_get (k0 := 1) (Cn := RX5) (T := TX5) (N := 2) C (nsX_mem (by decide)) rfl iw_X2_settle_X5 (by decide) rfl m_X2_settle_f90 (ceX_1 _) rfl dX2_settle_30 ?_
  refine V_iload_n C 0 dX2_settle_33 rfl ?_
  refine V_isub C dX2_settle_34 ?_
  refine V_iconst (v := (4 : Int32)) C dX2_settle_35 (by decide) ?_
  refine V_idiv C dX2_settle_36 (by decide) ?_
  refine V_iconst (v := (5 : Int32)) C dX2_settle_37 (by decide) ?_
  refine V_mmin C m_X2_settle_l81 m_X2_settle_smin m_X2_settle_imath m_X2_settle_kmin (by decide) (Nat.le_of_ble_eq_true rfl) dX2_settle_38 ?_
  refine V_putI (k0 := 3) (Cn := RX2) (T := TX2) (N := 18) C (hs_mem0 h_b) rfl iw_X2_settle_X2 (by decide) rfl m_X2_settle_f93 tyX2_ok nmX2 rfl (show _ = some FieldType.int by decide +kernel) rfl rfl (Nat.le_of_ble_eq_true rfl) ((ceX_H h_b) _) (stXH_3 h_b _ _) dX2_settle_41 (fun M53 e54 => ?_)
  have h := h M53 e54
  refine V_iconst (v := (0 : Int32)) C dX2_settle_44 (by decide) ?_
  refine V_istore_n (lv' := [(3, .int (0 : Int32)), (2, .int r43), (0, .ref (ad b)), (1, .ref (ad 1))]) C dX2_settle_45 rfl (by decide) rfl ?_
  refine V_drop (lv' := [(0, .ref (ad b)), (1, .ref (ad 1)), (2, .int r43), (3, .int (0 : Int32))]) [2, 3, 1, 0] rfl ?_
  obtain ⟨n0, h⟩ := h
  exact L46  n0 r43 (0 : Int32) M53 h 
