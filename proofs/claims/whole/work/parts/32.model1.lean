def w_X12_within (x1 : Int32) (x2 : Int32) (x3 : Int32) (M : Mm) (post : Int32 → Mm → Prop) : Prop :=
  ((x1 < x2) → (post (0 : Int32) M)) ∧ ((¬ x1 < x2) → (((x3 < x1) → (post (0 : Int32) M)) ∧ ((¬ x3 < x1) → (post (1 : Int32) M))))
set_option maxHeartbeats 4000000 in
set_option maxRecDepth 100000 in
theorem c_X12_within (l : Launch) (D : va_G) (cy : Nat → ClassId) (ad : Nat → Nat) (A : Nat → Prop) (G : Gd A ad nsM)   (x1 : Int32) (x2 : Int32) (x3 : Int32) (M : Mm) (post : Int32 → Mm → Prop) (h : w_X12_within x1 x2 x3 M post) : CI l yX12_within wsX12_within (rmL 2) D (tysC cy) A ad nsM (ceM ad cy) ExM [.int x1, .int x2, .int x3] M (fun r M' => (r = 0 ∨ r = 1) ∧ post r M') := by
  refine Met_V (cc := cX12_within) (maxL := 3) (ret := (some .boolean)) (by decide) rfl G Lo_M ExM_ok (Nat.le_of_ble_eq_true rfl) rfl ?_
  intro p e s m args below meth c C hr hlk
  have C : Cx p s m args c cX12_within 3 RX12 wsX12_within D (tysC cy) A ad nsM (ceM ad cy) ExM := C
  unfold w_X12_within at h
  refine V_iload_n C 0 dX12_within_0 rfl ?_
  refine V_iload_n C 1 dX12_within_1 rfl ?_
  refine V_icmp_lt C 14 dX12_within_2 (by decide) (fun q1 => ?_) (fun q1 => ?_)
  · have h := h.1 q1
    refine V_iconst (v := (0 : Int32)) C dX12_within_14 (by decide) ?_
    exact V_zret C hr hlk (Or.inl rfl) dX12_within_15 h
  · have h := h.2 q1
    refine V_iload_n C 0 dX12_within_5 rfl ?_
    refine V_iload_n C 2 dX12_within_6 rfl ?_
    refine V_icmp_gt C 14 dX12_within_7 (by decide) (fun q2 => ?_) (fun q2 => ?_)
    · have h := h.1 q2
      refine V_iconst (v := (0 : Int32)) C dX12_within_14 (by decide) ?_
      exact V_zret C hr hlk (Or.inl rfl) dX12_within_15 h
    · have h := h.2 q2
      refine V_iconst (v := (1 : Int32)) C dX12_within_10 (by decide) ?_
      refine V_goto C 15 dX12_within_11 (by decide) ?_
      exact V_zret C hr hlk (Or.inr rfl) dX12_within_15 h
def w_X12_isIn (x1 : Int32) (x2 : Int32) (M : Mm) (post : Int32 → Mm → Prop) : Prop :=
  ((¬ ((x1 >>> (x2 &&& 31)) &&& (1 : Int32)) = (1 : Int32)) → (post (0 : Int32) M)) ∧ ((((x1 >>> (x2 &&& 31)) &&& (1 : Int32)) = (1 : Int32)) → (post (1 : Int32) M))
set_option maxHeartbeats 4000000 in
set_option maxRecDepth 100000 in
theorem c_X12_isIn (l : Launch) (D : va_G) (cy : Nat → ClassId) (ad : Nat → Nat) (A : Nat → Prop) (G : Gd A ad nsM)   (x1 : Int32) (x2 : Int32) (M : Mm) (post : Int32 → Mm → Prop) (h : w_X12_isIn x1 x2 M post) : CI l yX12_isIn wsX12_isIn (rmL 2) D (tysC cy) A ad nsM (ceM ad cy) ExM [.int x1, .int x2] M (fun r M' => (r = 0 ∨ r = 1) ∧ post r M') := by
  refine Met_V (cc := cX12_isIn) (maxL := 2) (ret := (some .boolean)) (by decide) rfl G Lo_M ExM_ok (Nat.le_of_ble_eq_true rfl) rfl ?_
  intro p e s m args below meth c C hr hlk
  have C : Cx p s m args c cX12_isIn 2 RX12 wsX12_isIn D (tysC cy) A ad nsM (ceM ad cy) ExM := C
  unfold w_X12_isIn at h
  refine V_iload_n C 0 dX12_isIn_0 rfl ?_
  refine V_iload_n C 1 dX12_isIn_1 rfl ?_
  refine V_ishr C dX12_isIn_2 ?_
  refine V_iconst (v := (1 : Int32)) C dX12_isIn_3 (by decide) ?_
  refine V_iand C dX12_isIn_4 ?_
  refine V_iconst (v := (1 : Int32)) C dX12_isIn_5 (by decide) ?_
  refine V_icmp_ne C 13 dX12_isIn_6 (by decide) (fun q1 => ?_) (fun q1 => ?_)
  · have h := h.1 q1
    refine V_iconst (v := (0 : Int32)) C dX12_isIn_13 (by decide) ?_
    exact V_zret C hr hlk (Or.inl rfl) dX12_isIn_14 h
  · have h := h.2 q1
    refine V_iconst (v := (1 : Int32)) C dX12_isIn_9 (by decide) ?_
    refine V_goto C 14 dX12_isIn_10 (by decide) ?_
    exact V_zret C hr hlk (Or.inr rfl) dX12_isIn_14 h
def w_X12_divisor_6  (post : Int64 → Mm → Prop)  : Nat → Int64 → Int64 → Mm → Prop
  | 0 => fun _ _ _ => False
  | n + 1 => fun v4 v6 M =>
    (((lg_cmp v6 (0 : Int64)) = 0) → (post v4 M)) ∧ ((¬ (lg_cmp v6 (0 : Int64)) = 0) → ((¬ v6 = 0) ∧ (w_X12_divisor_6  post  n v6 (v4 - v4 / v6 * v6) M)))
def w_X12_divisor (x1 : Int64) (x2 : Int64) (M : Mm) (post : Int64 → Mm → Prop) : Prop :=
  ∃ n0 : Nat, w_X12_divisor_6  post  n0 x1 x2 M
set_option maxHeartbeats 4000000 in
set_option maxRecDepth 100000 in
theorem c_X12_divisor (l : Launch) (D : va_G) (cy : Nat → ClassId) (ad : Nat → Nat) (A : Nat → Prop) (G : Gd A ad nsM)   (x1 : Int64) (x2 : Int64) (M : Mm) (post : Int64 → Mm → Prop) (h : w_X12_divisor x1 x2 M post) : CL l yX12_divisor wsX12_divisor (rmL 2) D (tysC cy) A ad nsM (ceM ad cy) ExM [.long x1, .long x2] M post := by
  refine Met_V (cc := cX12_divisor) (maxL := 10) (ret := (some .long)) (by decide) rfl G Lo_M ExM_ok (Nat.le_of_ble_eq_true rfl) rfl ?_
  intro p e s m args below meth c C hr hlk
  have C : Cx p s m args c cX12_divisor 10 RX12 wsX12_divisor D (tysC cy) A ad nsM (ceM ad cy) ExM := C
  have L6 : ∀  (n : Nat) (v4 : Int64) (v6 : Int64) (M : Mm), w_X12_divisor_6  post  n v4 v6 M → V p l e (rmL 2) s m args below meth c (MQ below (va_Ql post (Wd D (tysC cy) ad nsM (ceM ad cy) ExM) A) args s 0 0 A) D A ad nsM (ceM ad cy) 10 M [(4, .long v4), (6, .long v6)] 6 [] := by
    intro  n
    induction n with
    | zero => intro v4 v6 M h; exact h.elim
    | succ n ih =>
    intro v4 v6 M h 
    unfold w_X12_divisor_6 at h
    refine V_lload C 1 dX12_divisor_6 rfl ?_
    refine V_lconst (v := (0 : Int64)) C dX12_divisor_8 (by decide) ?_
    refine V_lcmp C dX12_divisor_9 ?_
    refine V_if_eq C 31 dX12_divisor_10 (by decide) (fun q1 => ?_) (fun q1 => ?_)
    · have h := h.1 q1
      refine V_lload C 0 dX12_divisor_31 rfl ?_
      exact V_lret C hr hlk dX12_divisor_33 h
    · have h := h.2 q1
      refine V_lload C 0 dX12_divisor_13 rfl ?_
      refine V_lload C 1 dX12_divisor_15 rfl ?_
      have g2 := h.1
      have h := h.2
      refine V_lrem C dX12_divisor_17 g2 ?_
      refine V_lstore (lv' := [(8, .long (v4 - v4 / v6 * v6)), (4, .long v4), (6, .long v6)]) C dX12_divisor_18 (by decide) rfl ?_
      refine V_lload C 2 dX12_divisor_20 rfl ?_
      refine V_lstore (lv' := [(4, .long v6), (8, .long (v4 - v4 / v6 * v6)), (6, .long v6)]) C dX12_divisor_22 (by decide) rfl ?_
      refine V_lload C 1 dX12_divisor_24 rfl ?_
      refine V_lstore (lv' := [(6, .long (v4 - v4 / v6 * v6)), (4, .long v6), (8, .long (v4 - v4 / v6 * v6))]) C dX12_divisor_26 (by decide) rfl ?_
      refine V_goto C 6 dX12_divisor_28 (by decide) ?_
      refine V_drop (lv' := [(4, .long v6), (6, .long (v4 - v4 / v6 * v6))]) [1, 0] rfl ?_
      exact ih v6 (v4 - v4 / v6 * v6) M h 
  unfold w_X12_divisor at h
  refine V_lload_n C 0 dX12_divisor_0 rfl ?_
  refine V_lstore (lv' := [(4, .long x1), (0, .long x1), (2, .long x2)]) C dX12_divisor_1 (by decide) rfl ?_
  refine V_lload_n C 2 dX12_divisor_3 rfl ?_
  refine V_lstore (lv' := [(6, .long x2), (4, .long x1), (0, .long x1), (2, .long x2)]) C dX12_divisor_4 (by decide) rfl ?_
  refine V_drop (lv' := [(4, .long x1), (6, .long x2)]) [1, 0] rfl ?_
  obtain ⟨n0, h⟩ := h
  exact L6  n0 x1 x2 M h 
def w_X12_letter (x1 : Int32) (M : Mm) (post : Int32 → Mm → Prop) : Prop :=
  w_X12_within x1 (32 : Int32) (126 : Int32) M (fun r1 M2 => ((¬ r1 = 0) → (((¬ (M2.1 0 19) = (52 : Int32)) → ((vp_in (M2.1 0 19) 52) ∧ (∀ M7 : Mm, M7 = wI M2 13 (upd (M2.1 13) (M2.1 0 19).toNatClampNeg (vp_nar .byte (x1.toInt8.toInt32))) → (∀ M9 : Mm, M9 = wI M7 0 (upd (M7.1 0) 19 ((M7.1 0 19) + (1 : Int32))) → (post (M9.1 0 19) M9))))) ∧ (((M2.1 0 19) = (52 : Int32)) → (post (-104 : Int32) M2)))) ∧ ((r1 = 0) → (post (-102 : Int32) M2)))
theorem iw_X12_letter_X12 : ∀ w ∈ u_ws RX12 TX12 49, w ∈ wsX12_letter := by decide +kernel
theorem m_X12_letter_f112 : Cond.fieldLink RX12 112 "ShameYardsModel" "pageLength" "I" ∈ wsX12_letter := by decide +kernel
theorem m_X12_letter_f46 : Cond.fieldLink RX12 46 "ShameYardsModel" "page" "[B" ∈ wsX12_letter := by decide +kernel
set_option maxHeartbeats 4000000 in
set_option maxRecDepth 100000 in
theorem c_X12_letter (l : Launch) (D : va_G) (cy : Nat → ClassId) (ad : Nat → Nat) (A : Nat → Prop) (G : Gd A ad nsM)   (x1 : Int32) (M : Mm) (post : Int32 → Mm → Prop) (h : w_X12_letter x1 M post) : CI l yX12_letter wsX12_letter (rmL 3) D (tysC cy) A ad nsM (ceM ad cy) ExM [.ref (ad 0), .int x1] M post := by
  refine Met_V (cc := cX12_letter) (maxL := 2) (ret := (some .int)) (by decide) rfl G Lo_M ExM_ok (Nat.le_of_ble_eq_true rfl) rfl ?_
  intro p e s m args below meth c C hr hlk
  have C : Cx p s m args c cX12_letter 2 RX12 wsX12_letter D (tysC cy) A ad nsM (ceM ad cy) ExM := C
  unfold w_X12_letter at h
  refine V_iload_n C 1 dX12_letter_0 rfl ?_
  refine V_bipush (v := (32 : Int32)) C dX12_letter_1 (by decide) ?_
  refine V_bipush (v := (126 : Int32)) C dX12_letter_3 (by decide) ?_
  refine V_callSi (rest := []) C (c_X12_within l D cy ad A G x1 (32 : Int32) (126 : Int32) M _ h) (va_cwS 3 C.1.2.2.2.2 gX12_letter_X12_within rfl rfl rfl (by decide +kernel) ⟨by decide, by decide⟩) rfl rfl (Nat.le_of_ble_eq_true rfl) dX12_letter_5 (fun r1 M2 h => ?_)
  obtain ⟨z3, h⟩ := h
  refine V_if_ne C 14 dX12_letter_8 (by decide) (fun q4 => ?_) (fun q4 => ?_)
  · have h := h.1 q4
    refine V_aload_n C 0 dX12_letter_14 rfl ?_
    refine V_get (k0 := 19) (Cn := RX12) (T := TX12) (N := 49) C (nsM_mem (by decide)) rfl iw_X12_letter_X12 (by decide) rfl m_X12_letter_f112 (ceM_0 _) rfl dX12_letter_15 ?_
    refine V_bipush (v := (52 : Int32)) C dX12_letter_18 (by decide) ?_
    refine V_icmp_ne C 26 dX12_letter_20 (by decide) (fun q5 => ?_) (fun q5 => ?_)
    · have h := h.1 q5
      refine V_aload_n C 0 dX12_letter_26 rfl ?_
      refine V_get (k0 := 20) (Cn := RX12) (T := TX12) (N := 49) C (nsM_mem (by decide)) rfl iw_X12_letter_X12 (by decide) rfl m_X12_letter_f46 (ceM_0 _) rfl dX12_letter_27 ?_
      refine V_aload_n C 0 dX12_letter_30 rfl ?_
      refine V_get (k0 := 19) (Cn := RX12) (T := TX12) (N := 49) C (nsM_mem (by decide)) rfl iw_X12_letter_X12 (by decide) rfl m_X12_letter_f112 (ceM_0 _) rfl dX12_letter_31 ?_
      refine V_iload_n C 1 dX12_letter_34 rfl ?_
      refine V_i2b C dX12_letter_35 ?_
      have g6 := h.1
      have h := h.2
      refine V_bast (t0 := 0) (L := 52) C (nsM_mem (by decide)) (fun _ => rfl) rfl g6 dX12_letter_36 (fun M7 e8 => ?_)
      have h := h M7 e8
      refine V_aload_n C 0 dX12_letter_37 rfl ?_
      refine V_dup C dX12_letter_38 rfl ?_
      refine V_get (k0 := 19) (Cn := RX12) (T := TX12) (N := 49) C (nsM_mem (by decide)) rfl iw_X12_letter_X12 (by decide) rfl m_X12_letter_f112 (ceM_0 _) rfl dX12_letter_39 ?_
      refine V_iconst (v := (1 : Int32)) C dX12_letter_42 (by decide) ?_
      refine V_iadd C dX12_letter_43 ?_
      refine V_putI (k0 := 19) (Cn := RX12) (T := TX12) (N := 49) C (nsM_mem (by decide)) rfl iw_X12_letter_X12 (by decide) rfl m_X12_letter_f112 tyX12_ok nmX12 rfl (show _ = some FieldType.int by decide +kernel) rfl rfl (Nat.le_of_ble_eq_true rfl) (ceM_0 _) (stM0_19  _ _) dX12_letter_44 (fun M9 e10 => ?_)
      have h := h M9 e10
      refine V_aload_n C 0 dX12_letter_47 rfl ?_
      refine V_get (k0 := 19) (Cn := RX12) (T := TX12) (N := 49) C (nsM_mem (by decide)) rfl iw_X12_letter_X12 (by decide) rfl m_X12_letter_f112 (ceM_0 _) rfl dX12_letter_48 ?_
      exact V_iret C hr hlk dX12_letter_51 h
    · have h := h.2 q5
      refine V_bipush (v := (-104 : Int32)) C dX12_letter_23 (by decide) ?_
      exact V_iret C hr hlk dX12_letter_25 h
  · have h := h.2 q4
    refine V_bipush (v := (-102 : Int32)) C dX12_letter_11 (by decide) ?_
    exact V_iret C hr hlk dX12_letter_13 h
def w_X12_blank  (M : Mm) (post : Int32 → Mm → Prop) : Prop :=
  ∀ M1 : Mm, M1 = wI M 0 (upd (M.1 0) 19 (0 : Int32)) → (post (M.1 0 19) M1)
theorem iw_X12_blank_X12 : ∀ w ∈ u_ws RX12 TX12 49, w ∈ wsX12_blank := by decide +kernel
theorem m_X12_blank_f112 : Cond.fieldLink RX12 112 "ShameYardsModel" "pageLength" "I" ∈ wsX12_blank := by decide +kernel
set_option maxHeartbeats 4000000 in
set_option maxRecDepth 100000 in
theorem c_X12_blank (l : Launch) (D : va_G) (cy : Nat → ClassId) (ad : Nat → Nat) (A : Nat → Prop) (G : Gd A ad nsM)    (M : Mm) (post : Int32 → Mm → Prop) (h : w_X12_blank  M post) : CI l yX12_blank wsX12_blank (rmL 2) D (tysC cy) A ad nsM (ceM ad cy) ExM [.ref (ad 0)] M post := by
  refine Met_V (cc := cX12_blank) (maxL := 2) (ret := (some .int)) (by decide) rfl G Lo_M ExM_ok (Nat.le_of_ble_eq_true rfl) rfl ?_
  intro p e s m args below meth c C hr hlk
  have C : Cx p s m args c cX12_blank 2 RX12 wsX12_blank D (tysC cy) A ad nsM (ceM ad cy) ExM := C
  unfold w_X12_blank at h
  refine V_aload_n C 0 dX12_blank_0 rfl ?_
  refine V_get (k0 := 19) (Cn := RX12) (T := TX12) (N := 49) C (nsM_mem (by decide)) rfl iw_X12_blank_X12 (by decide) rfl m_X12_blank_f112 (ceM_0 _) rfl dX12_blank_1 ?_
  refine V_istore_n (lv' := [(1, .int (M.1 0 19)), (0, .ref (ad 0))]) C dX12_blank_4 rfl (by decide) rfl ?_
  refine V_aload_n C 1 dX12_blank_5 rfl ?_
  refine V_iconst (v := (0 : Int32)) C dX12_blank_6 (by decide) ?_
  refine V_putI (k0 := 19) (Cn := RX12) (T := TX12) (N := 49) C (nsM_mem (by decide)) rfl iw_X12_blank_X12 (by decide) rfl m_X12_blank_f112 tyX12_ok nmX12 rfl (show _ = some FieldType.int by decide +kernel) rfl rfl (Nat.le_of_ble_eq_true rfl) (ceM_0 _) (stM0_19  _ _) dX12_blank_7 (fun M1 e2 => ?_)
  have h := h M1 e2
  refine V_iload_n C 0 dX12_blank_10 rfl ?_
  exact V_iret C hr hlk dX12_blank_11 h
def w_X12_kindBy (x1 : Int32) (M : Mm) (post : Int32 → Mm → Prop) : Prop :=
  ((x1 = 98) → (post (1 : Int32) M)) ∧ ((¬ x1 = 98) → (((x1 = 99) → (post (0 : Int32) M)) ∧ ((¬ x1 = 99) → (((x1 = 108) → (post (4 : Int32) M)) ∧ ((¬ x1 = 108) → (((x1 = 109) → (post (2 : Int32) M)) ∧ ((¬ x1 = 109) → (((x1 = 119) → (post (3 : Int32) M)) ∧ ((¬ x1 = 119) → (post (-1 : Int32) M))))))))))
set_option maxHeartbeats 4000000 in
set_option maxRecDepth 100000 in
theorem c_X12_kindBy (l : Launch) (D : va_G) (cy : Nat → ClassId) (ad : Nat → Nat) (A : Nat → Prop) (G : Gd A ad nsM)   (x1 : Int32) (M : Mm) (post : Int32 → Mm → Prop) (h : w_X12_kindBy x1 M post) : CI l yX12_kindBy wsX12_kindBy (rmL 2) D (tysC cy) A ad nsM (ceM ad cy) ExM [.int x1] M post := by
  refine Met_V (cc := cX12_kindBy) (maxL := 1) (ret := (some .int)) (by decide) rfl G Lo_M ExM_ok (Nat.le_of_ble_eq_true rfl) rfl ?_
  intro p e s m args below meth c C hr hlk
  have C : Cx p s m args c cX12_kindBy 1 RX12 wsX12_kindBy D (tysC cy) A ad nsM (ceM ad cy) ExM := C
  unfold w_X12_kindBy at h
  refine V_iload_n C 0 dX12_kindBy_0 rfl ?_
  by_cases q1 : x1 = 98
  · have h := h.1 q1
    refine V_lsw (off := 53) C 54 dX12_kindBy_1 (by decide) (by rw [q1]; first | done | rfl) (by decide) ?_
    refine V_iconst (v := (1 : Int32)) C dX12_kindBy_54 (by decide) ?_
    exact V_iret C hr hlk dX12_kindBy_55 h
  · have h := h.2 q1
    by_cases q2 : x1 = 99
    · have h := h.1 q2
      refine V_lsw (off := 51) C 52 dX12_kindBy_1 (by decide) (by rw [q2]; first | done | rfl) (by decide) ?_
      refine V_iconst (v := (0 : Int32)) C dX12_kindBy_52 (by decide) ?_
      exact V_iret C hr hlk dX12_kindBy_53 h
    · have h := h.2 q2
      by_cases q3 : x1 = 108
      · have h := h.1 q3
        refine V_lsw (off := 59) C 60 dX12_kindBy_1 (by decide) (by rw [q3]; first | done | rfl) (by decide) ?_
        refine V_iconst (v := (4 : Int32)) C dX12_kindBy_60 (by decide) ?_
        exact V_iret C hr hlk dX12_kindBy_61 h
      · have h := h.2 q3
        by_cases q4 : x1 = 109
        · have h := h.1 q4
          refine V_lsw (off := 55) C 56 dX12_kindBy_1 (by decide) (by rw [q4]; first | done | rfl) (by decide) ?_
          refine V_iconst (v := (2 : Int32)) C dX12_kindBy_56 (by decide) ?_
          exact V_iret C hr hlk dX12_kindBy_57 h
        · have h := h.2 q4
          by_cases q5 : x1 = 119
          · have h := h.1 q5
            refine V_lsw (off := 57) C 58 dX12_kindBy_1 (by decide) (by rw [q5]; first | done | rfl) (by decide) ?_
            refine V_iconst (v := (3 : Int32)) C dX12_kindBy_58 (by decide) ?_
            exact V_iret C hr hlk dX12_kindBy_59 h
          · have h := h.2 q5
            refine V_lsw (off := 61) C 62 dX12_kindBy_1 (by decide) (by show Op.lookupswitch.offset [((98 : Int), (53 : Int)), ((99 : Int), (51 : Int)), ((108 : Int), (59 : Int)), ((109 : Int), (55 : Int)), ((119 : Int), (57 : Int))] 61 _ = _; rw [lv_osw q1 (show (98 : Int32).toInt = 98 by decide), lv_osw q2 (show (99 : Int32).toInt = 99 by decide), lv_osw q3 (show (108 : Int32).toInt = 108 by decide), lv_osw q4 (show (109 : Int32).toInt = 109 by decide), lv_osw q5 (show (119 : Int32).toInt = 119 by decide)]; first | done | rfl) (by decide) ?_
            refine V_iconst (v := (-1 : Int32)) C dX12_kindBy_62 (by decide) ?_
            exact V_iret C hr hlk dX12_kindBy_63 h
def w_X12_at (x1 : Int32) (M : Mm) (post : Int32 → Mm → Prop) : Prop :=
  (((M.1 0 19) ≤ x1) → (post (0 : Int32) M)) ∧ ((¬ (M.1 0 19) ≤ x1) → ((vp_in x1 52) ∧ (post (M.1 13 x1.toNatClampNeg) M)))
theorem iw_X12_at_X12 : ∀ w ∈ u_ws RX12 TX12 49, w ∈ wsX12_at := by decide +kernel
theorem m_X12_at_f112 : Cond.fieldLink RX12 112 "ShameYardsModel" "pageLength" "I" ∈ wsX12_at := by decide +kernel
theorem m_X12_at_f46 : Cond.fieldLink RX12 46 "ShameYardsModel" "page" "[B" ∈ wsX12_at := by decide +kernel
set_option maxHeartbeats 4000000 in
set_option maxRecDepth 100000 in
theorem c_X12_at (l : Launch) (D : va_G) (cy : Nat → ClassId) (ad : Nat → Nat) (A : Nat → Prop) (G : Gd A ad nsM)   (x1 : Int32) (M : Mm) (post : Int32 → Mm → Prop) (h : w_X12_at x1 M post) : CI l yX12_at wsX12_at (rmL 2) D (tysC cy) A ad nsM (ceM ad cy) ExM [.ref (ad 0), .int x1] M post := by
  refine Met_V (cc := cX12_at) (maxL := 2) (ret := (some .int)) (by decide) rfl G Lo_M ExM_ok (Nat.le_of_ble_eq_true rfl) rfl ?_
  intro p e s m args below meth c C hr hlk
  have C : Cx p s m args c cX12_at 2 RX12 wsX12_at D (tysC cy) A ad nsM (ceM ad cy) ExM := C
  unfold w_X12_at at h
  refine V_iload_n C 1 dX12_at_0 rfl ?_
  refine V_aload_n C 0 dX12_at_1 rfl ?_
  refine V_get (k0 := 19) (Cn := RX12) (T := TX12) (N := 49) C (nsM_mem (by decide)) rfl iw_X12_at_X12 (by decide) rfl m_X12_at_f112 (ceM_0 _) rfl dX12_at_2 ?_
  refine V_icmp_ge C 17 dX12_at_5 (by decide) (fun q1 => ?_) (fun q1 => ?_)
  · have h := h.1 q1
    refine V_iconst (v := (0 : Int32)) C dX12_at_17 (by decide) ?_
    exact V_iret C hr hlk dX12_at_18 h
  · have h := h.2 q1
    refine V_aload_n C 0 dX12_at_8 rfl ?_
    refine V_get (k0 := 20) (Cn := RX12) (T := TX12) (N := 49) C (nsM_mem (by decide)) rfl iw_X12_at_X12 (by decide) rfl m_X12_at_f46 (ceM_0 _) rfl dX12_at_9 ?_
    refine V_iload_n C 1 dX12_at_12 rfl ?_
    have g2 := h.1
    have h := h.2
    refine V_bald (t0 := 0) (L := 52) C (nsM_mem (by decide)) (fun _ => rfl) rfl g2 dX12_at_13 ?_
    refine V_goto C 18 dX12_at_14 (by decide) ?_
    exact V_iret C hr hlk dX12_at_18 h
def w_X12_isFigure (x1 : Int32) (x2 : Int32) (x3 : Int32) (M : Mm) (post : Int32 → Mm → Prop) : Prop :=
  w_X12_at x1 M (fun r1 M2 => w_X12_within (r1 - (48 : Int32)) x2 x3 M2 (fun r4 M5 => post r4 M5))
set_option maxHeartbeats 4000000 in
set_option maxRecDepth 100000 in
theorem c_X12_isFigure (l : Launch) (D : va_G) (cy : Nat → ClassId) (ad : Nat → Nat) (A : Nat → Prop) (G : Gd A ad nsM)   (x1 : Int32) (x2 : Int32) (x3 : Int32) (M : Mm) (post : Int32 → Mm → Prop) (h : w_X12_isFigure x1 x2 x3 M post) : CI l yX12_isFigure wsX12_isFigure (rmL 3) D (tysC cy) A ad nsM (ceM ad cy) ExM [.ref (ad 0), .int x1, .int x2, .int x3] M (fun r M' => (r = 0 ∨ r = 1) ∧ post r M') := by
  refine Met_V (cc := cX12_isFigure) (maxL := 4) (ret := (some .boolean)) (by decide) rfl G Lo_M ExM_ok (Nat.le_of_ble_eq_true rfl) rfl ?_
  intro p e s m args below meth c C hr hlk
  have C : Cx p s m args c cX12_isFigure 4 RX12 wsX12_isFigure D (tysC cy) A ad nsM (ceM ad cy) ExM := C
  unfold w_X12_isFigure at h
  refine V_aload_n C 0 dX12_isFigure_0 rfl ?_
  refine V_iload_n C 1 dX12_isFigure_1 rfl ?_
  refine V_callVi (q := (RX12, TX12, 49)) (rest := []) C (nsM_mem (by decide)) (ceM_0 _) rfl (c_X12_at l D cy ad A G x1 M _ h) (cwV 1 C.1.2.2.2.2 gX12_isFigure_X12_at rfl rfl rfl (by decide +kernel) ⟨by decide, by decide⟩) rfl rfl (Nat.le_of_ble_eq_true rfl) dX12_isFigure_2 (fun r1 M2 h => ?_)
  refine V_bipush (v := (48 : Int32)) C dX12_isFigure_5 (by decide) ?_
  refine V_isub C dX12_isFigure_7 ?_
  refine V_iload_n C 2 dX12_isFigure_8 rfl ?_
  refine V_iload_n C 3 dX12_isFigure_9 rfl ?_
  refine V_callSi (rest := []) C (c_X12_within l D cy ad A G (r1 - (48 : Int32)) x2 x3 M2 _ h) (va_cwS 3 C.1.2.2.2.2 gX12_isFigure_X12_within rfl rfl rfl (by decide +kernel) ⟨by decide, by decide⟩) rfl rfl (Nat.le_of_ble_eq_true rfl) dX12_isFigure_10 (fun r4 M5 h => ?_)
  obtain ⟨z6, h⟩ := h
  exact V_zret C hr hlk z6 dX12_isFigure_13 h
def w_X12_readPassage (x1 : Int32) (x2 : Int32) (M : Mm) (post : Int32 → Mm → Prop) : Prop :=
  w_X12_isFigure x1 (0 : Int32) x2 M (fun r1 M2 => ((¬ r1 = 0) → (w_X12_isFigure (x1 + (1 : Int32)) (0 : Int32) x2 M2 (fun r5 M6 => ((r5 = 0) → (post (x1 + (1 : Int32)) M6)) ∧ ((¬ r5 = 0) → (w_X12_at x1 M6 (fun r9 M10 => w_X12_at (x1 + (1 : Int32)) M10 (fun r12 M13 => ((¬ r9 = r12) → (w_X12_isFigure (x1 + (2 : Int32)) (1 : Int32) (9 : Int32) M13 (fun r16 M17 => ((r16 = 0) → (post (x1 + (2 : Int32)) M17)) ∧ ((¬ r16 = 0) → (post (x1 + (3 : Int32)) M17))))) ∧ ((r9 = r12) → (post (x1 + (1 : Int32)) M13))))))))) ∧ ((r1 = 0) → (post x1 M2)))
set_option maxHeartbeats 4000000 in
set_option maxRecDepth 100000 in
theorem c_X12_readPassage (l : Launch) (D : va_G) (cy : Nat → ClassId) (ad : Nat → Nat) (A : Nat → Prop) (G : Gd A ad nsM)   (x1 : Int32) (x2 : Int32) (M : Mm) (post : Int32 → Mm → Prop) (h : w_X12_readPassage x1 x2 M post) : CI l yX12_readPassage wsX12_readPassage (rmL 4) D (tysC cy) A ad nsM (ceM ad cy) ExM [.ref (ad 0), .int x1, .int x2] M post := by
  refine Met_V (cc := cX12_readPassage) (maxL := 3) (ret := (some .int)) (by decide) rfl G Lo_M ExM_ok (Nat.le_of_ble_eq_true rfl) rfl ?_
  intro p e s m args below meth c C hr hlk
  have C : Cx p s m args c cX12_readPassage 3 RX12 wsX12_readPassage D (tysC cy) A ad nsM (ceM ad cy) ExM := C
  unfold w_X12_readPassage at h
  refine V_aload_n C 0 dX12_readPassage_0 rfl ?_
  refine V_iload_n C 1 dX12_readPassage_1 rfl ?_
  refine V_iconst (v := (0 : Int32)) C dX12_readPassage_2 (by decide) ?_
  refine V_iload_n C 2 dX12_readPassage_3 rfl ?_
  refine V_callVi (q := (RX12, TX12, 49)) (rest := []) C (nsM_mem (by decide)) (ceM_0 _) rfl (c_X12_isFigure l D cy ad A G x1 (0 : Int32) x2 M _ h) (cwV 3 C.1.2.2.2.2 gX12_readPassage_X12_isFigure rfl rfl rfl (by decide +kernel) ⟨by decide, by decide⟩) rfl rfl (Nat.le_of_ble_eq_true rfl) dX12_readPassage_4 (fun r1 M2 h => ?_)
  obtain ⟨z3, h⟩ := h
  refine V_if_ne C 12 dX12_readPassage_7 (by decide) (fun q4 => ?_) (fun q4 => ?_)
  · have h := h.1 q4
    refine V_aload_n C 0 dX12_readPassage_12 rfl ?_
    refine V_iload_n C 1 dX12_readPassage_13 rfl ?_
    refine V_iconst (v := (1 : Int32)) C dX12_readPassage_14 (by decide) ?_
    refine V_iadd C dX12_readPassage_15 ?_
    refine V_iconst (v := (0 : Int32)) C dX12_readPassage_16 (by decide) ?_
    refine V_iload_n C 2 dX12_readPassage_17 rfl ?_
    refine V_callVi (q := (RX12, TX12, 49)) (rest := []) C (nsM_mem (by decide)) (ceM_0 _) rfl (c_X12_isFigure l D cy ad A G (x1 + (1 : Int32)) (0 : Int32) x2 M2 _ h) (cwV 3 C.1.2.2.2.2 gX12_readPassage_X12_isFigure rfl rfl rfl (by decide +kernel) ⟨by decide, by decide⟩) rfl rfl (Nat.le_of_ble_eq_true rfl) dX12_readPassage_18 (fun r5 M6 h => ?_)
    obtain ⟨z7, h⟩ := h
    refine V_if_eq C 39 dX12_readPassage_21 (by decide) (fun q8 => ?_) (fun q8 => ?_)
    · have h := h.1 q8
      refine V_iload_n C 1 dX12_readPassage_39 rfl ?_
      refine V_iconst (v := (1 : Int32)) C dX12_readPassage_40 (by decide) ?_
      refine V_iadd C dX12_readPassage_41 ?_
      exact V_iret C hr hlk dX12_readPassage_42 h
    · have h := h.2 q8
      refine V_aload_n C 0 dX12_readPassage_24 rfl ?_
      refine V_iload_n C 1 dX12_readPassage_25 rfl ?_
      refine V_callVi (q := (RX12, TX12, 49)) (rest := []) C (nsM_mem (by decide)) (ceM_0 _) rfl (c_X12_at l D cy ad A G x1 M6 _ h) (cwV 1 C.1.2.2.2.2 gX12_readPassage_X12_at rfl rfl rfl (by decide +kernel) ⟨by decide, by decide⟩) rfl rfl (Nat.le_of_ble_eq_true rfl) dX12_readPassage_26 (fun r9 M10 h => ?_)
      refine V_aload_n C 0 dX12_readPassage_29 rfl ?_
      refine V_iload_n C 1 dX12_readPassage_30 rfl ?_
      refine V_iconst (v := (1 : Int32)) C dX12_readPassage_31 (by decide) ?_
      refine V_iadd C dX12_readPassage_32 ?_
      refine V_callVi (q := (RX12, TX12, 49)) (rest := [.int r9]) C (nsM_mem (by decide)) (ceM_0 _) rfl (c_X12_at l D cy ad A G (x1 + (1 : Int32)) M10 _ h) (cwV 1 C.1.2.2.2.2 gX12_readPassage_X12_at rfl rfl rfl (by decide +kernel) ⟨by decide, by decide⟩) rfl rfl (Nat.le_of_ble_eq_true rfl) dX12_readPassage_33 (fun r12 M13 h => ?_)
      refine V_icmp_ne C 43 dX12_readPassage_36 (by decide) (fun q15 => ?_) (fun q15 => ?_)
      · have h := h.1 q15
        refine V_aload_n C 0 dX12_readPassage_43 rfl ?_
        refine V_iload_n C 1 dX12_readPassage_44 rfl ?_
        refine V_iconst (v := (2 : Int32)) C dX12_readPassage_45 (by decide) ?_
        refine V_iadd C dX12_readPassage_46 ?_
        refine V_iconst (v := (1 : Int32)) C dX12_readPassage_47 (by decide) ?_
        refine V_bipush (v := (9 : Int32)) C dX12_readPassage_48 (by decide) ?_
        refine V_callVi (q := (RX12, TX12, 49)) (rest := []) C (nsM_mem (by decide)) (ceM_0 _) rfl (c_X12_isFigure l D cy ad A G (x1 + (2 : Int32)) (1 : Int32) (9 : Int32) M13 _ h) (cwV 3 C.1.2.2.2.2 gX12_readPassage_X12_isFigure rfl rfl rfl (by decide +kernel) ⟨by decide, by decide⟩) rfl rfl (Nat.le_of_ble_eq_true rfl) dX12_readPassage_50 (fun r16 M17 h => ?_)
        obtain ⟨z18, h⟩ := h
        refine V_if_eq C 62 dX12_readPassage_53 (by decide) (fun q19 => ?_) (fun q19 => ?_)
        · have h := h.1 q19
          refine V_iload_n C 1 dX12_readPassage_62 rfl ?_
          refine V_iconst (v := (2 : Int32)) C dX12_readPassage_63 (by decide) ?_
          refine V_iadd C dX12_readPassage_64 ?_
          exact V_iret C hr hlk dX12_readPassage_65 h
        · have h := h.2 q19
          refine V_iload_n C 1 dX12_readPassage_56 rfl ?_
          refine V_iconst (v := (3 : Int32)) C dX12_readPassage_57 (by decide) ?_
          refine V_iadd C dX12_readPassage_58 ?_
          refine V_goto C 65 dX12_readPassage_59 (by decide) ?_
          exact V_iret C hr hlk dX12_readPassage_65 h
      · have h := h.2 q15
        refine V_iload_n C 1 dX12_readPassage_39 rfl ?_
        refine V_iconst (v := (1 : Int32)) C dX12_readPassage_40 (by decide) ?_
        refine V_iadd C dX12_readPassage_41 ?_
        exact V_iret C hr hlk dX12_readPassage_42 h
  · have h := h.2 q4
    refine V_iload_n C 1 dX12_readPassage_10 rfl ?_
    exact V_iret C hr hlk dX12_readPassage_11 h
def w_X12_readPerson (x1 : Int32) (M : Mm) (post : Int32 → Mm → Prop) : Prop :=
  w_X12_at x1 M (fun r1 M2 => w_X12_kindBy r1 M2 (fun r4 M5 => ((¬ r4 = (-1 : Int32)) → (w_X12_isFigure (x1 + (1 : Int32)) (0 : Int32) (9 : Int32) M5 (fun r8 M9 => ((¬ r8 = 0) → (w_X12_isFigure (x1 + (2 : Int32)) (0 : Int32) (9 : Int32) M9 (fun r12 M13 => ((r12 = 0) → (post (x1 + (2 : Int32)) M13)) ∧ ((¬ r12 = 0) → (post (x1 + (3 : Int32)) M13))))) ∧ ((r8 = 0) → (post (x1 + (1 : Int32)) M9))))) ∧ ((r4 = (-1 : Int32)) → (post x1 M5))))
set_option maxHeartbeats 4000000 in
set_option maxRecDepth 100000 in
theorem c_X12_readPerson (l : Launch) (D : va_G) (cy : Nat → ClassId) (ad : Nat → Nat) (A : Nat → Prop) (G : Gd A ad nsM)   (x1 : Int32) (M : Mm) (post : Int32 → Mm → Prop) (h : w_X12_readPerson x1 M post) : CI l yX12_readPerson wsX12_readPerson (rmL 4) D (tysC cy) A ad nsM (ceM ad cy) ExM [.ref (ad 0), .int x1] M post := by
  refine Met_V (cc := cX12_readPerson) (maxL := 2) (ret := (some .int)) (by decide) rfl G Lo_M ExM_ok (Nat.le_of_ble_eq_true rfl) rfl ?_
  intro p e s m args below meth c C hr hlk
  have C : Cx p s m args c cX12_readPerson 2 RX12 wsX12_readPerson D (tysC cy) A ad nsM (ceM ad cy) ExM := C
  unfold w_X12_readPerson at h
  refine V_aload_n C 0 dX12_readPerson_0 rfl ?_
  refine V_iload_n C 1 dX12_readPerson_1 rfl ?_
  refine V_callVi (q := (RX12, TX12, 49)) (rest := []) C (nsM_mem (by decide)) (ceM_0 _) rfl (c_X12_at l D cy ad A G x1 M _ h) (cwV 1 C.1.2.2.2.2 gX12_readPerson_X12_at rfl rfl rfl (by decide +kernel) ⟨by decide, by decide⟩) rfl rfl (Nat.le_of_ble_eq_true rfl) dX12_readPerson_2 (fun r1 M2 h => ?_)
  refine V_callSi (rest := []) C (c_X12_kindBy l D cy ad A G r1 M2 _ h) (va_cwS 1 C.1.2.2.2.2 gX12_readPerson_X12_kindBy rfl rfl rfl (by decide +kernel) ⟨by decide, by decide⟩) rfl rfl (Nat.le_of_ble_eq_true rfl) dX12_readPerson_5 (fun r4 M5 h => ?_)
  refine V_iconst (v := (-1 : Int32)) C dX12_readPerson_8 (by decide) ?_
  refine V_icmp_ne C 14 dX12_readPerson_9 (by decide) (fun q7 => ?_) (fun q7 => ?_)
  · have h := h.1 q7
    refine V_aload_n C 0 dX12_readPerson_14 rfl ?_
    refine V_iload_n C 1 dX12_readPerson_15 rfl ?_
    refine V_iconst (v := (1 : Int32)) C dX12_readPerson_16 (by decide) ?_
    refine V_iadd C dX12_readPerson_17 ?_
    refine V_iconst (v := (0 : Int32)) C dX12_readPerson_18 (by decide) ?_
    refine V_bipush (v := (9 : Int32)) C dX12_readPerson_19 (by decide) ?_
    refine V_callVi (q := (RX12, TX12, 49)) (rest := []) C (nsM_mem (by decide)) (ceM_0 _) rfl (c_X12_isFigure l D cy ad A G (x1 + (1 : Int32)) (0 : Int32) (9 : Int32) M5 _ h) (cwV 3 C.1.2.2.2.2 gX12_readPerson_X12_isFigure rfl rfl rfl (by decide +kernel) ⟨by decide, by decide⟩) rfl rfl (Nat.le_of_ble_eq_true rfl) dX12_readPerson_21 (fun r8 M9 h => ?_)
    obtain ⟨z10, h⟩ := h
    refine V_if_ne C 33 dX12_readPerson_24 (by decide) (fun q11 => ?_) (fun q11 => ?_)
    · have h := h.1 q11
      refine V_aload_n C 0 dX12_readPerson_33 rfl ?_
      refine V_iload_n C 1 dX12_readPerson_34 rfl ?_
      refine V_iconst (v := (2 : Int32)) C dX12_readPerson_35 (by decide) ?_
      refine V_iadd C dX12_readPerson_36 ?_
      refine V_iconst (v := (0 : Int32)) C dX12_readPerson_37 (by decide) ?_
      refine V_bipush (v := (9 : Int32)) C dX12_readPerson_38 (by decide) ?_
      refine V_callVi (q := (RX12, TX12, 49)) (rest := []) C (nsM_mem (by decide)) (ceM_0 _) rfl (c_X12_isFigure l D cy ad A G (x1 + (2 : Int32)) (0 : Int32) (9 : Int32) M9 _ h) (cwV 3 C.1.2.2.2.2 gX12_readPerson_X12_isFigure rfl rfl rfl (by decide +kernel) ⟨by decide, by decide⟩) rfl rfl (Nat.le_of_ble_eq_true rfl) dX12_readPerson_40 (fun r12 M13 h => ?_)
      obtain ⟨z14, h⟩ := h
      refine V_if_eq C 52 dX12_readPerson_43 (by decide) (fun q15 => ?_) (fun q15 => ?_)
      · have h := h.1 q15
        refine V_iload_n C 1 dX12_readPerson_52 rfl ?_
        refine V_iconst (v := (2 : Int32)) C dX12_readPerson_53 (by decide) ?_
        refine V_iadd C dX12_readPerson_54 ?_
        exact V_iret C hr hlk dX12_readPerson_55 h
      · have h := h.2 q15
        refine V_iload_n C 1 dX12_readPerson_46 rfl ?_
        refine V_iconst (v := (3 : Int32)) C dX12_readPerson_47 (by decide) ?_
        refine V_iadd C dX12_readPerson_48 ?_
        refine V_goto C 55 dX12_readPerson_49 (by decide) ?_
        exact V_iret C hr hlk dX12_readPerson_55 h
    · have h := h.2 q11
      refine V_iload_n C 1 dX12_readPerson_27 rfl ?_
      refine V_iconst (v := (1 : Int32)) C dX12_readPerson_28 (by decide) ?_
      refine V_iadd C dX12_readPerson_29 ?_
      refine V_goto C 55 dX12_readPerson_30 (by decide) ?_
      exact V_iret C hr hlk dX12_readPerson_55 h
  · have h := h.2 q7
    refine V_iload_n C 1 dX12_readPerson_12 rfl ?_
    exact V_iret C hr hlk dX12_readPerson_13 h
def w_X12_readPeople_51  (post : Int32 → Mm → Prop) (k2 : Int32 → Mm → Prop) (v2 : Int32) (s1 : Int32) (M : Mm) : Prop :=
    ∀ M1 : Mm, M1 = wI M 0 (upd (M.1 0) 21 s1) → ((((M1.1 0 23) = (5 : Int32)) → (post v2 M1)) ∧ ((¬ (M1.1 0 23) = (5 : Int32)) → (w_X12_at v2 M1 (fun r4 M5 => ((r4 = (44 : Int32)) → (k2 (v2 + 1) M5)) ∧ ((¬ r4 = (44 : Int32)) → (post v2 M5))))))
def w_X12_readPeople_2  (post : Int32 → Mm → Prop)  : Nat → Int32 → Mm → Prop
  | 0 => fun _ _ => False
  | n + 1 => fun v2 M =>
    (((5 : Int32) ≤ (M.1 0 23)) → (post v2 M)) ∧ ((¬ (5 : Int32) ≤ (M.1 0 23)) → (w_X12_readPerson v2 M (fun r9 M10 => ((r9 = (v2 + (3 : Int32))) → (∀ M13 : Mm, M13 = wI M10 0 (upd (M10.1 0) 23 ((M10.1 0 23) + (1 : Int32))) → (((¬ r9 = (M13.1 0 19)) → (w_X12_readPeople_51  post (w_X12_readPeople_2  post  n) r9 (0 : Int32) M13)) ∧ ((r9 = (M13.1 0 19)) → (w_X12_readPeople_51  post (w_X12_readPeople_2  post  n) r9 (1 : Int32) M13))))) ∧ ((¬ r9 = (v2 + (3 : Int32))) → (post r9 M10)))))
def w_X12_readPeople (x1 : Int32) (M : Mm) (post : Int32 → Mm → Prop) : Prop :=
  ∃ n0 : Nat, w_X12_readPeople_2  post  n0 x1 M
theorem iw_X12_readPeople_X12 : ∀ w ∈ u_ws RX12 TX12 49, w ∈ wsX12_readPeople := by decide +kernel
theorem m_X12_readPeople_f132 : Cond.fieldLink RX12 132 "ShameYardsModel" "isWhole" "Z" ∈ wsX12_readPeople := by decide +kernel
theorem m_X12_readPeople_f126 : Cond.fieldLink RX12 126 "ShameYardsModel" "newPeople" "I" ∈ wsX12_readPeople := by decide +kernel
theorem m_X12_readPeople_f112 : Cond.fieldLink RX12 112 "ShameYardsModel" "pageLength" "I" ∈ wsX12_readPeople := by decide +kernel
set_option maxHeartbeats 4000000 in
set_option maxRecDepth 100000 in
theorem c_X12_readPeople (l : Launch) (D : va_G) (cy : Nat → ClassId) (ad : Nat → Nat) (A : Nat → Prop) (G : Gd A ad nsM)   (x1 : Int32) (M : Mm) (post : Int32 → Mm → Prop) (h : w_X12_readPeople x1 M post) : CI l yX12_readPeople wsX12_readPeople (rmL 5) D (tysC cy) A ad nsM (ceM ad cy) ExM [.ref (ad 0), .int x1] M post := by
  refine Met_V (cc := cX12_readPeople) (maxL := 4) (ret := (some .int)) (by decide) rfl G Lo_M ExM_ok (Nat.le_of_ble_eq_true rfl) rfl ?_
  intro p e s m args below meth c C hr hlk
  have C : Cx p s m args c cX12_readPeople 4 RX12 wsX12_readPeople D (tysC cy) A ad nsM (ceM ad cy) ExM := C
  have L51 : ∀ (k2 : Int32 → Mm → Prop) (hk2 : ∀ (v2 : Int32) (M : Mm), k2 v2 M → V p l e (rmL 5) s m args below meth c (MQ below (va_Qi post (Wd D (tysC cy) ad nsM (ceM ad cy) ExM) A) args s 0 0 A) D A ad nsM (ceM ad cy) 4 M [(0, .ref (ad 0)), (2, .int v2)] 2 []) (v2 : Int32) (s1 : Int32) (M : Mm), w_X12_readPeople_51  post k2 v2 s1 M → (s1 = 0 ∨ s1 = 1) → V p l e (rmL 5) s m args below meth c (MQ below (va_Qi post (Wd D (tysC cy) ad nsM (ceM ad cy) ExM) A) args s 0 0 A) D A ad nsM (ceM ad cy) 4 M [(0, .ref (ad 0)), (2, .int v2)] 51 [.int s1, .ref (ad 0)] := by
    intro k2 hk2 v2 s1 M h zs1
    unfold w_X12_readPeople_51 at h
    refine V_putI (k0 := 21) (Cn := RX12) (T := TX12) (N := 49) C (nsM_mem (by decide)) rfl iw_X12_readPeople_X12 (by decide) rfl m_X12_readPeople_f132 tyX12_ok nmX12 rfl (show _ = some FieldType.boolean by decide +kernel) (nz_n zs1) (nz_f zs1) (Nat.le_of_ble_eq_true rfl) (ceM_0 _) (stM0_21  _ _) dX12_readPeople_51 (fun M1 e2 => ?_)
    have h := h M1 e2
    refine V_aload_n C 0 dX12_readPeople_54 rfl ?_
    refine V_get (k0 := 23) (Cn := RX12) (T := TX12) (N := 49) C (nsM_mem (by decide)) rfl iw_X12_readPeople_X12 (by decide) rfl m_X12_readPeople_f126 (ceM_0 _) rfl dX12_readPeople_55 ?_
    refine V_iconst (v := (5 : Int32)) C dX12_readPeople_58 (by decide) ?_
    refine V_icmp_eq C 72 dX12_readPeople_59 (by decide) (fun q3 => ?_) (fun q3 => ?_)
    · have h := h.1 q3
      refine V_iload_n C 1 dX12_readPeople_72 rfl ?_
      exact V_iret C hr hlk dX12_readPeople_73 h
    · have h := h.2 q3
      refine V_aload_n C 0 dX12_readPeople_62 rfl ?_
      refine V_iload_n C 1 dX12_readPeople_63 rfl ?_
      refine V_callVi (q := (RX12, TX12, 49)) (rest := []) C (nsM_mem (by decide)) (ceM_0 _) rfl (c_X12_at l D cy ad A G v2 M1 _ h) (cwV 1 C.1.2.2.2.2 gX12_readPeople_X12_at rfl rfl rfl (by decide +kernel) ⟨by decide, by decide⟩) rfl rfl (Nat.le_of_ble_eq_true rfl) dX12_readPeople_64 (fun r4 M5 h => ?_)
      refine V_bipush (v := (44 : Int32)) C dX12_readPeople_67 (by decide) ?_
      refine V_icmp_eq C 74 dX12_readPeople_69 (by decide) (fun q7 => ?_) (fun q7 => ?_)
      · have h := h.1 q7
        refine V_iinc (v := (v2 + 1)) (lv' := [(2, .int (v2 + 1)), (0, .ref (ad 0))]) C 1 dX12_readPeople_74 rfl rfl (by decide) rfl ?_
        refine V_goto C 2 dX12_readPeople_77 (by decide) ?_
        refine V_drop (lv' := [(0, .ref (ad 0)), (2, .int (v2 + 1))]) [1, 0] rfl ?_
        exact hk2 (v2 + 1) M5 h 
      · have h := h.2 q7
        refine V_iload_n C 1 dX12_readPeople_72 rfl ?_
        exact V_iret C hr hlk dX12_readPeople_73 h
  have L2 : ∀  (n : Nat) (v2 : Int32) (M : Mm), w_X12_readPeople_2  post  n v2 M → V p l e (rmL 5) s m args below meth c (MQ below (va_Qi post (Wd D (tysC cy) ad nsM (ceM ad cy) ExM) A) args s 0 0 A) D A ad nsM (ceM ad cy) 4 M [(0, .ref (ad 0)), (2, .int v2)] 2 [] := by
    intro  n
    induction n with
    | zero => intro v2 M h; exact h.elim
    | succ n ih =>
    intro v2 M h 
    unfold w_X12_readPeople_2 at h
    refine V_aload_n C 0 dX12_readPeople_2 rfl ?_
    refine V_get (k0 := 23) (Cn := RX12) (T := TX12) (N := 49) C (nsM_mem (by decide)) rfl iw_X12_readPeople_X12 (by decide) rfl m_X12_readPeople_f126 (ceM_0 _) rfl dX12_readPeople_3 ?_
    refine V_iconst (v := (5 : Int32)) C dX12_readPeople_6 (by decide) ?_
    refine V_icmp_ge C 80 dX12_readPeople_7 (by decide) (fun q8 => ?_) (fun q8 => ?_)
    · have h := h.1 q8
      refine V_iload_n C 1 dX12_readPeople_80 rfl ?_
      exact V_iret C hr hlk dX12_readPeople_81 h
    · have h := h.2 q8
      refine V_aload_n C 0 dX12_readPeople_10 rfl ?_
      refine V_iload_n C 1 dX12_readPeople_11 rfl ?_
      refine V_callVi (q := (RX12, TX12, 49)) (rest := []) C (nsM_mem (by decide)) (ceM_0 _) rfl (c_X12_readPerson l D cy ad A G v2 M _ h) (cwV 1 C.1.2.2.2.2 gX12_readPeople_X12_readPerson rfl rfl rfl (by decide +kernel) ⟨by decide, by decide⟩) rfl rfl (Nat.le_of_ble_eq_true rfl) dX12_readPeople_12 (fun r9 M10 h => ?_)
      refine V_istore_n (lv' := [(3, .int r9), (0, .ref (ad 0)), (2, .int v2)]) C dX12_readPeople_15 rfl (by decide) rfl ?_
      refine V_iload_n C 0 dX12_readPeople_16 rfl ?_
      refine V_iload_n C 2 dX12_readPeople_17 rfl ?_
      refine V_iconst (v := (3 : Int32)) C dX12_readPeople_18 (by decide) ?_
      refine V_iadd C dX12_readPeople_19 ?_
      refine V_icmp_eq C 25 dX12_readPeople_20 (by decide) (fun q12 => ?_) (fun q12 => ?_)
      · have h := h.1 q12
        refine V_aload_n C 1 dX12_readPeople_25 rfl ?_
        refine V_dup C dX12_readPeople_26 rfl ?_
        refine V_get (k0 := 23) (Cn := RX12) (T := TX12) (N := 49) C (nsM_mem (by decide)) rfl iw_X12_readPeople_X12 (by decide) rfl m_X12_readPeople_f126 (ceM_0 _) rfl dX12_readPeople_27 ?_
        refine V_iconst (v := (1 : Int32)) C dX12_readPeople_30 (by decide) ?_
        refine V_iadd C dX12_readPeople_31 ?_
        refine V_putI (k0 := 23) (Cn := RX12) (T := TX12) (N := 49) C (nsM_mem (by decide)) rfl iw_X12_readPeople_X12 (by decide) rfl m_X12_readPeople_f126 tyX12_ok nmX12 rfl (show _ = some FieldType.int by decide +kernel) rfl rfl (Nat.le_of_ble_eq_true rfl) (ceM_0 _) (stM0_23  _ _) dX12_readPeople_32 (fun M13 e14 => ?_)
        have h := h M13 e14
        refine V_iload_n C 0 dX12_readPeople_35 rfl ?_
        refine V_istore_n (lv' := [(2, .int r9), (3, .int r9), (0, .ref (ad 0))]) C dX12_readPeople_36 rfl (by decide) rfl ?_
        refine V_aload_n C 2 dX12_readPeople_37 rfl ?_
        refine V_iload_n C 0 dX12_readPeople_38 rfl ?_
        refine V_aload_n C 2 dX12_readPeople_39 rfl ?_
        refine V_get (k0 := 19) (Cn := RX12) (T := TX12) (N := 49) C (nsM_mem (by decide)) rfl iw_X12_readPeople_X12 (by decide) rfl m_X12_readPeople_f112 (ceM_0 _) rfl dX12_readPeople_40 ?_
        refine V_icmp_ne C 50 dX12_readPeople_43 (by decide) (fun q15 => ?_) (fun q15 => ?_)
        · have h := h.1 q15
          refine V_iconst (v := (0 : Int32)) C dX12_readPeople_50 (by decide) ?_
          refine V_drop (lv' := [(0, .ref (ad 0)), (2, .int r9)]) [2, 0] rfl ?_
          exact L51 (w_X12_readPeople_2  post  n) ih r9 (0 : Int32) M13 h (Or.inl rfl)
        · have h := h.2 q15
          refine V_iconst (v := (1 : Int32)) C dX12_readPeople_46 (by decide) ?_
          refine V_goto C 51 dX12_readPeople_47 (by decide) ?_
          refine V_drop (lv' := [(0, .ref (ad 0)), (2, .int r9)]) [2, 0] rfl ?_
          exact L51 (w_X12_readPeople_2  post  n) ih r9 (1 : Int32) M13 h (Or.inr rfl)
      · have h := h.2 q12
        refine V_iload_n C 0 dX12_readPeople_23 rfl ?_
        exact V_iret C hr hlk dX12_readPeople_24 h
  unfold w_X12_readPeople at h
  refine V_iload_n C 1 dX12_readPeople_0 rfl ?_
  refine V_istore_n (lv' := [(2, .int x1), (0, .ref (ad 0)), (1, .int x1)]) C dX12_readPeople_1 rfl (by decide) rfl ?_
  refine V_drop (lv' := [(0, .ref (ad 0)), (2, .int x1)]) [1, 0] rfl ?_
  obtain ⟨n0, h⟩ := h
  exact L2  n0 x1 M h 
def w_X12_read_41  (post : Int32 → Mm → Prop)  : Nat → Int32 → Mm → Prop
  | 0 => fun _ _ => False
  | n + 1 => fun v1 M =>
    (((7 : Int32) ≤ (M.1 0 22)) → (post v1 M)) ∧ ((¬ (7 : Int32) ≤ (M.1 0 22)) → (w_X12_at (0 : Int32) M (fun r2 M3 => w_X12_readPassage v1 (r2 - (49 : Int32)) M3 (fun r5 M6 => ((r5 = (v1 + (3 : Int32))) → (∀ M9 : Mm, M9 = wI M6 0 (upd (M6.1 0) 22 ((M6.1 0 22) + (1 : Int32))) → (w_X12_at r5 M9 (fun r11 M12 => ((¬ r11 = (59 : Int32)) → ((((M12.1 0 22) = (7 : Int32)) → (post r5 M12)) ∧ ((¬ (M12.1 0 22) = (7 : Int32)) → (w_X12_at r5 M12 (fun r16 M17 => ((r16 = (44 : Int32)) → (w_X12_read_41  post  n (r5 + 1) M17)) ∧ ((¬ r16 = (44 : Int32)) → (post r5 M17))))))) ∧ ((r11 = (59 : Int32)) → (w_X12_readPeople (r5 + (1 : Int32)) M12 (fun r20 M21 => post r20 M21))))))) ∧ ((¬ r5 = (v1 + (3 : Int32))) → (post r5 M6))))))
def w_X12_read  (M : Mm) (post : Int32 → Mm → Prop) : Prop :=
  ∀ M23 : Mm, M23 = wI M 0 (upd (M.1 0) 21 (0 : Int32)) → (∀ M25 : Mm, M25 = wI M23 0 (upd (M23.1 0) 22 (0 : Int32)) → (∀ M27 : Mm, M27 = wI M25 0 (upd (M25.1 0) 23 (0 : Int32)) → (w_X12_isFigure (0 : Int32) (2 : Int32) (5 : Int32) M27 (fun r29 M30 => ((¬ r29 = 0) → (w_X12_at (1 : Int32) M30 (fun r33 M34 => ((r33 = (59 : Int32)) → (∃ n0 : Nat, w_X12_read_41  post  n0 (2 : Int32) M34)) ∧ ((¬ r33 = (59 : Int32)) → (post (1 : Int32) M34))))) ∧ ((r29 = 0) → (post (0 : Int32) M30))))))
theorem iw_X12_read_X12 : ∀ w ∈ u_ws RX12 TX12 49, w ∈ wsX12_read := by decide +kernel
theorem m_X12_read_f136 : Cond.fieldLink RX12 136 "ShameYardsModel" "newPassages" "I" ∈ wsX12_read := by decide +kernel
theorem m_X12_read_f132 : Cond.fieldLink RX12 132 "ShameYardsModel" "isWhole" "Z" ∈ wsX12_read := by decide +kernel
theorem m_X12_read_f126 : Cond.fieldLink RX12 126 "ShameYardsModel" "newPeople" "I" ∈ wsX12_read := by decide +kernel
set_option maxHeartbeats 4000000 in
set_option maxRecDepth 100000 in
theorem c_X12_read (l : Launch) (D : va_G) (cy : Nat → ClassId) (ad : Nat → Nat) (A : Nat → Prop) (G : Gd A ad nsM)    (M : Mm) (post : Int32 → Mm → Prop) (h : w_X12_read  M post) : CI l yX12_read wsX12_read (rmL 6) D (tysC cy) A ad nsM (ceM ad cy) ExM [.ref (ad 0)] M post := by
  refine Met_V (cc := cX12_read) (maxL := 3) (ret := (some .int)) (by decide) rfl G Lo_M ExM_ok (Nat.le_of_ble_eq_true rfl) rfl ?_
  intro p e s m args below meth c C hr hlk
  have C : Cx p s m args c cX12_read 3 RX12 wsX12_read D (tysC cy) A ad nsM (ceM ad cy) ExM := C
  have L41 : ∀  (n : Nat) (v1 : Int32) (M : Mm), w_X12_read_41  post  n v1 M → V p l e (rmL 6) s m args below meth c (MQ below (va_Qi post (Wd D (tysC cy) ad nsM (ceM ad cy) ExM) A) args s 0 0 A) D A ad nsM (ceM ad cy) 3 M [(0, .ref (ad 0)), (1, .int v1)] 41 [] := by
    intro  n
    induction n with
    | zero => intro v1 M h; exact h.elim
    | succ n ih =>
    intro v1 M h 
    unfold w_X12_read_41 at h
    refine V_aload_n C 0 dX12_read_41 rfl ?_
    refine V_get (k0 := 22) (Cn := RX12) (T := TX12) (N := 49) C (nsM_mem (by decide)) rfl iw_X12_read_X12 (by decide) rfl m_X12_read_f136 (ceM_0 _) rfl dX12_read_42 ?_
    refine V_bipush (v := (7 : Int32)) C dX12_read_45 (by decide) ?_
    refine V_icmp_ge C 130 dX12_read_47 (by decide) (fun q1 => ?_) (fun q1 => ?_)
    · have h := h.1 q1
      refine V_iload_n C 1 dX12_read_130 rfl ?_
      exact V_iret C hr hlk dX12_read_131 h
    · have h := h.2 q1
      refine V_aload_n C 0 dX12_read_50 rfl ?_
      refine V_iload_n C 1 dX12_read_51 rfl ?_
      refine V_aload_n C 0 dX12_read_52 rfl ?_
      refine V_iconst (v := (0 : Int32)) C dX12_read_53 (by decide) ?_
      refine V_callVi (q := (RX12, TX12, 49)) (rest := [.int v1, .ref (ad 0)]) C (nsM_mem (by decide)) (ceM_0 _) rfl (c_X12_at l D cy ad A G (0 : Int32) M _ h) (cwV 1 C.1.2.2.2.2 gX12_read_X12_at rfl rfl rfl (by decide +kernel) ⟨by decide, by decide⟩) rfl rfl (Nat.le_of_ble_eq_true rfl) dX12_read_54 (fun r2 M3 h => ?_)
      refine V_bipush (v := (49 : Int32)) C dX12_read_57 (by decide) ?_
      refine V_isub C dX12_read_59 ?_
      refine V_callVi (q := (RX12, TX12, 49)) (rest := []) C (nsM_mem (by decide)) (ceM_0 _) rfl (c_X12_readPassage l D cy ad A G v1 (r2 - (49 : Int32)) M3 _ h) (cwV 2 C.1.2.2.2.2 gX12_read_X12_readPassage rfl rfl rfl (by decide +kernel) ⟨by decide, by decide⟩) rfl rfl (Nat.le_of_ble_eq_true rfl) dX12_read_60 (fun r5 M6 h => ?_)
      refine V_istore_n (lv' := [(2, .int r5), (0, .ref (ad 0)), (1, .int v1)]) C dX12_read_63 rfl (by decide) rfl ?_
      refine V_iload_n C 0 dX12_read_64 rfl ?_
      refine V_iload_n C 2 dX12_read_65 rfl ?_
      refine V_iconst (v := (3 : Int32)) C dX12_read_66 (by decide) ?_
      refine V_iadd C dX12_read_67 ?_
      refine V_icmp_eq C 73 dX12_read_68 (by decide) (fun q8 => ?_) (fun q8 => ?_)
      · have h := h.1 q8
        refine V_aload_n C 1 dX12_read_73 rfl ?_
        refine V_dup C dX12_read_74 rfl ?_
        refine V_get (k0 := 22) (Cn := RX12) (T := TX12) (N := 49) C (nsM_mem (by decide)) rfl iw_X12_read_X12 (by decide) rfl m_X12_read_f136 (ceM_0 _) rfl dX12_read_75 ?_
        refine V_iconst (v := (1 : Int32)) C dX12_read_78 (by decide) ?_
        refine V_iadd C dX12_read_79 ?_
        refine V_putI (k0 := 22) (Cn := RX12) (T := TX12) (N := 49) C (nsM_mem (by decide)) rfl iw_X12_read_X12 (by decide) rfl m_X12_read_f136 tyX12_ok nmX12 rfl (show _ = some FieldType.int by decide +kernel) rfl rfl (Nat.le_of_ble_eq_true rfl) (ceM_0 _) (stM0_22  _ _) dX12_read_80 (fun M9 e10 => ?_)
        have h := h M9 e10
        refine V_iload_n C 0 dX12_read_83 rfl ?_
        refine V_istore_n (lv' := [(1, .int r5), (2, .int r5), (0, .ref (ad 0))]) C dX12_read_84 rfl (by decide) rfl ?_
        refine V_aload_n C 2 dX12_read_85 rfl ?_
        refine V_iload_n C 0 dX12_read_86 rfl ?_
        refine V_callVi (q := (RX12, TX12, 49)) (rest := []) C (nsM_mem (by decide)) (ceM_0 _) rfl (c_X12_at l D cy ad A G r5 M9 _ h) (cwV 1 C.1.2.2.2.2 gX12_read_X12_at rfl rfl rfl (by decide +kernel) ⟨by decide, by decide⟩) rfl rfl (Nat.le_of_ble_eq_true rfl) dX12_read_87 (fun r11 M12 h => ?_)
        refine V_bipush (v := (59 : Int32)) C dX12_read_90 (by decide) ?_
        refine V_icmp_ne C 103 dX12_read_92 (by decide) (fun q14 => ?_) (fun q14 => ?_)
        · have h := h.1 q14
          refine V_aload_n C 2 dX12_read_103 rfl ?_
          refine V_get (k0 := 22) (Cn := RX12) (T := TX12) (N := 49) C (nsM_mem (by decide)) rfl iw_X12_read_X12 (by decide) rfl m_X12_read_f136 (ceM_0 _) rfl dX12_read_104 ?_
          refine V_bipush (v := (7 : Int32)) C dX12_read_107 (by decide) ?_
          refine V_icmp_eq C 122 dX12_read_109 (by decide) (fun q15 => ?_) (fun q15 => ?_)
          · have h := h.1 q15
            refine V_iload_n C 0 dX12_read_122 rfl ?_
            exact V_iret C hr hlk dX12_read_123 h
          · have h := h.2 q15
            refine V_aload_n C 2 dX12_read_112 rfl ?_
            refine V_iload_n C 0 dX12_read_113 rfl ?_
            refine V_callVi (q := (RX12, TX12, 49)) (rest := []) C (nsM_mem (by decide)) (ceM_0 _) rfl (c_X12_at l D cy ad A G r5 M12 _ h) (cwV 1 C.1.2.2.2.2 gX12_read_X12_at rfl rfl rfl (by decide +kernel) ⟨by decide, by decide⟩) rfl rfl (Nat.le_of_ble_eq_true rfl) dX12_read_114 (fun r16 M17 h => ?_)
            refine V_bipush (v := (44 : Int32)) C dX12_read_117 (by decide) ?_
            refine V_icmp_eq C 124 dX12_read_119 (by decide) (fun q19 => ?_) (fun q19 => ?_)
            · have h := h.1 q19
              refine V_iinc (v := (r5 + 1)) (lv' := [(1, .int (r5 + 1)), (2, .int r5), (0, .ref (ad 0))]) C 0 dX12_read_124 rfl rfl (by decide) rfl ?_
              refine V_goto C 41 dX12_read_127 (by decide) ?_
              refine V_drop (lv' := [(0, .ref (ad 0)), (1, .int (r5 + 1))]) [2, 0] rfl ?_
              exact ih (r5 + 1) M17 h 
            · have h := h.2 q19
              refine V_iload_n C 0 dX12_read_122 rfl ?_
              exact V_iret C hr hlk dX12_read_123 h
        · have h := h.2 q14
          refine V_aload_n C 2 dX12_read_95 rfl ?_
          refine V_iload_n C 0 dX12_read_96 rfl ?_
          refine V_iconst (v := (1 : Int32)) C dX12_read_97 (by decide) ?_
          refine V_iadd C dX12_read_98 ?_
          refine V_callVi (q := (RX12, TX12, 49)) (rest := []) C (nsM_mem (by decide)) (ceM_0 _) rfl (c_X12_readPeople l D cy ad A G (r5 + (1 : Int32)) M12 _ h) (cwV 1 C.1.2.2.2.2 gX12_read_X12_readPeople rfl rfl rfl (by decide +kernel) ⟨by decide, by decide⟩) rfl rfl (Nat.le_of_ble_eq_true rfl) dX12_read_99 (fun r20 M21 h => ?_)
          exact V_iret C hr hlk dX12_read_102 h
      · have h := h.2 q8
        refine V_iload_n C 0 dX12_read_71 rfl ?_
        exact V_iret C hr hlk dX12_read_72 h
  unfold w_X12_read at h
  refine V_aload_n C 0 dX12_read_0 rfl ?_
  refine V_iconst (v := (0 : Int32)) C dX12_read_1 (by decide) ?_
  refine V_putI (k0 := 21) (Cn := RX12) (T := TX12) (N := 49) C (nsM_mem (by decide)) rfl iw_X12_read_X12 (by decide) rfl m_X12_read_f132 tyX12_ok nmX12 rfl (show _ = some FieldType.boolean by decide +kernel) (nz_n (Or.inl rfl)) (nz_f (Or.inl rfl)) (Nat.le_of_ble_eq_true rfl) (ceM_0 _) (stM0_21  _ _) dX12_read_2 (fun M23 e24 => ?_)
  have h := h M23 e24
  refine V_aload_n C 0 dX12_read_5 rfl ?_
  refine V_iconst (v := (0 : Int32)) C dX12_read_6 (by decide) ?_
  refine V_putI (k0 := 22) (Cn := RX12) (T := TX12) (N := 49) C (nsM_mem (by decide)) rfl iw_X12_read_X12 (by decide) rfl m_X12_read_f136 tyX12_ok nmX12 rfl (show _ = some FieldType.int by decide +kernel) rfl rfl (Nat.le_of_ble_eq_true rfl) (ceM_0 _) (stM0_22  _ _) dX12_read_7 (fun M25 e26 => ?_)
  have h := h M25 e26
  refine V_aload_n C 0 dX12_read_10 rfl ?_
  refine V_iconst (v := (0 : Int32)) C dX12_read_11 (by decide) ?_
  refine V_putI (k0 := 23) (Cn := RX12) (T := TX12) (N := 49) C (nsM_mem (by decide)) rfl iw_X12_read_X12 (by decide) rfl m_X12_read_f126 tyX12_ok nmX12 rfl (show _ = some FieldType.int by decide +kernel) rfl rfl (Nat.le_of_ble_eq_true rfl) (ceM_0 _) (stM0_23  _ _) dX12_read_12 (fun M27 e28 => ?_)
  have h := h M27 e28
  refine V_aload_n C 0 dX12_read_15 rfl ?_
  refine V_iconst (v := (0 : Int32)) C dX12_read_16 (by decide) ?_
  refine V_iconst (v := (2 : Int32)) C dX12_read_17 (by decide) ?_
  refine V_iconst (v := (5 : Int32)) C dX12_read_18 (by decide) ?_
  refine V_callVi (q := (RX12, TX12, 49)) (rest := []) C (nsM_mem (by decide)) (ceM_0 _) rfl (c_X12_isFigure l D cy ad A G (0 : Int32) (2 : Int32) (5 : Int32) M27 _ h) (cwV 3 C.1.2.2.2.2 gX12_read_X12_isFigure rfl rfl rfl (by decide +kernel) ⟨by decide, by decide⟩) rfl rfl (Nat.le_of_ble_eq_true rfl) dX12_read_19 (fun r29 M30 h => ?_)
  obtain ⟨z31, h⟩ := h
  refine V_if_ne C 27 dX12_read_22 (by decide) (fun q32 => ?_) (fun q32 => ?_)
  · have h := h.1 q32
    refine V_aload_n C 0 dX12_read_27 rfl ?_
    refine V_iconst (v := (1 : Int32)) C dX12_read_28 (by decide) ?_
    refine V_callVi (q := (RX12, TX12, 49)) (rest := []) C (nsM_mem (by decide)) (ceM_0 _) rfl (c_X12_at l D cy ad A G (1 : Int32) M30 _ h) (cwV 1 C.1.2.2.2.2 gX12_read_X12_at rfl rfl rfl (by decide +kernel) ⟨by decide, by decide⟩) rfl rfl (Nat.le_of_ble_eq_true rfl) dX12_read_29 (fun r33 M34 h => ?_)
    refine V_bipush (v := (59 : Int32)) C dX12_read_32 (by decide) ?_
    refine V_icmp_eq C 39 dX12_read_34 (by decide) (fun q36 => ?_) (fun q36 => ?_)
    · have h := h.1 q36
      refine V_iconst (v := (2 : Int32)) C dX12_read_39 (by decide) ?_
      refine V_istore_n (lv' := [(1, .int (2 : Int32)), (0, .ref (ad 0))]) C dX12_read_40 rfl (by decide) rfl ?_
      refine V_drop (lv' := [(0, .ref (ad 0)), (1, .int (2 : Int32))]) [1, 0] rfl ?_
      obtain ⟨n0, h⟩ := h
      exact L41  n0 (2 : Int32) M34 h 
    · have h := h.2 q36
      refine V_iconst (v := (1 : Int32)) C dX12_read_37 (by decide) ?_
      exact V_iret C hr hlk dX12_read_38 h
  · have h := h.2 q32
    refine V_iconst (v := (0 : Int32)) C dX12_read_25 (by decide) ?_
    exact V_iret C hr hlk dX12_read_26 h
def w_X12_fault  (M : Mm) (post : Int32 → Mm → Prop) : Prop :=
  w_X12_read  M (fun r1 M2 => post r1 M2)
set_option maxHeartbeats 4000000 in
set_option maxRecDepth 100000 in
theorem c_X12_fault (l : Launch) (D : va_G) (cy : Nat → ClassId) (ad : Nat → Nat) (A : Nat → Prop) (G : Gd A ad nsM)    (M : Mm) (post : Int32 → Mm → Prop) (h : w_X12_fault  M post) : CI l yX12_fault wsX12_fault (rmL 7) D (tysC cy) A ad nsM (ceM ad cy) ExM [.ref (ad 0)] M post := by
  refine Met_V (cc := cX12_fault) (maxL := 1) (ret := (some .int)) (by decide) rfl G Lo_M ExM_ok (Nat.le_of_ble_eq_true rfl) rfl ?_
  intro p e s m args below meth c C hr hlk
  have C : Cx p s m args c cX12_fault 1 RX12 wsX12_fault D (tysC cy) A ad nsM (ceM ad cy) ExM := C
  unfold w_X12_fault at h
  refine V_aload_n C 0 dX12_fault_0 rfl ?_
  refine V_callVi (q := (RX12, TX12, 49)) (rest := []) C (nsM_mem (by decide)) (ceM_0 _) rfl (c_X12_read l D cy ad A G  M _ h) (cwV 0 C.1.2.2.2.2 gX12_fault_X12_read rfl rfl rfl (by decide +kernel) ⟨by decide, by decide⟩) rfl rfl (Nat.le_of_ble_eq_true rfl) dX12_fault_1 (fun r1 M2 h => ?_)
  exact V_iret C hr hlk dX12_fault_4 h
def w_X12_ministry_128  (post : Int32 → Mm → Prop)  : Nat → Int32 → Int32 → Mm → Prop
  | 0 => fun _ _ _ => False
  | n + 1 => fun v1 v2 M =>
    (((M.1 0 3) ≤ v2) → (∀ M2 : Mm, M2 = wI M 0 (upd (M.1 0) 12 (0 : Int32)) → (∀ M4 : Mm, M4 = wI M2 0 (upd (M2.1 0) 0 ((M2.1 0 0) + (1 : Int32))) → (∀ M6 : Mm, M6 = wI M4 0 (upd (M4.1 0) 14 (0 : Int32)) → (∀ M8 : Mm, M8 = wI M6 0 (upd (M6.1 0) 19 (0 : Int32)) → (post (M8.1 0 3) M8)))))) ∧ ((¬ (M.1 0 3) ≤ v2) → ((vp_in (v1 + ((4 : Int32) * v2)) 52) ∧ (w_X12_kindBy (M.1 13 (v1 + ((4 : Int32) * v2)).toNatClampNeg) M (fun r11 M12 => (vp_in v2 5) ∧ (∀ M15 : Mm, M15 = wI M12 4 (upd (M12.1 4) v2.toNatClampNeg r11) → ((vp_in ((v1 + ((4 : Int32) * v2)) + (1 : Int32)) 52) ∧ (∀ M18 : Mm, M18 = wI M15 5 (upd (M15.1 5) v2.toNatClampNeg ((M15.1 13 ((v1 + ((4 : Int32) * v2)) + (1 : Int32)).toNatClampNeg) - (48 : Int32))) → ((vp_in ((v1 + ((4 : Int32) * v2)) + (2 : Int32)) 52) ∧ (∀ M21 : Mm, M21 = wI M18 6 (upd (M18.1 6) v2.toNatClampNeg ((M18.1 13 ((v1 + ((4 : Int32) * v2)) + (2 : Int32)).toNatClampNeg) - (48 : Int32))) → (∀ M23 : Mm, M23 = wI M21 7 (upd (M21.1 7) v2.toNatClampNeg (0 : Int32)) → (∀ M25 : Mm, M25 = wI M23 8 (upd (M23.1 8) v2.toNatClampNeg (0 : Int32)) → (w_X12_ministry_128  post  n v1 (v2 + 1) M25))))))))))))
def w_X12_ministry_46  (post : Int32 → Mm → Prop)  : Nat → Int32 → Mm → Prop
  | 0 => fun _ _ => False
  | n + 1 => fun v1 M =>
    (((M.1 0 2) ≤ v1) → (∃ n0 : Nat, w_X12_ministry_128  post  n0 ((2 : Int32) + ((4 : Int32) * (M.1 0 2))) (0 : Int32) M)) ∧ ((¬ (M.1 0 2) ≤ v1) → ((vp_in ((2 : Int32) + ((4 : Int32) * v1)) 52) ∧ ((vp_in v1 7) ∧ (∀ M30 : Mm, M30 = wI M 1 (upd (M.1 1) v1.toNatClampNeg ((M.1 13 ((2 : Int32) + ((4 : Int32) * v1)).toNatClampNeg) - (48 : Int32))) → ((vp_in ((3 : Int32) + ((4 : Int32) * v1)) 52) ∧ (∀ M33 : Mm, M33 = wI M30 2 (upd (M30.1 2) v1.toNatClampNeg ((M30.1 13 ((3 : Int32) + ((4 : Int32) * v1)).toNatClampNeg) - (48 : Int32))) → ((vp_in ((4 : Int32) + ((4 : Int32) * v1)) 52) ∧ (∀ M36 : Mm, M36 = wI M33 3 (upd (M33.1 3) v1.toNatClampNeg ((M33.1 13 ((4 : Int32) + ((4 : Int32) * v1)).toNatClampNeg) - (48 : Int32))) → (w_X12_ministry_46  post  n (v1 + 1) M36)))))))))
def w_X12_ministry  (M : Mm) (post : Int32 → Mm → Prop) : Prop :=
  w_X12_read  M (fun r38 M39 => ((¬ (M39.1 0 21) = 0) → (∀ M42 : Mm, M42 = wI M39 0 (upd (M39.1 0) 1 ((M39.1 13 (0 : Int32).toNatClampNeg) - (48 : Int32))) → (∀ M44 : Mm, M44 = wI M42 0 (upd (M42.1 0) 2 (M42.1 0 22)) → (∀ M46 : Mm, M46 = wI M44 0 (upd (M44.1 0) 3 (M44.1 0 23)) → (∃ n0 : Nat, w_X12_ministry_46  post  n0 (0 : Int32) M46))))) ∧ (((M39.1 0 21) = 0) → (post (-103 : Int32) M39)))
theorem iw_X12_ministry_X12 : ∀ w ∈ u_ws RX12 TX12 49, w ∈ wsX12_ministry := by decide +kernel
theorem m_X12_ministry_f156 : Cond.fieldLink RX12 156 "ShameYardsModel" "people" "I" ∈ wsX12_ministry := by decide +kernel
theorem m_X12_ministry_f159 : Cond.fieldLink RX12 159 "ShameYardsModel" "together" "I" ∈ wsX12_ministry := by decide +kernel
theorem m_X12_ministry_f162 : Cond.fieldLink RX12 162 "ShameYardsModel" "ministries" "I" ∈ wsX12_ministry := by decide +kernel
theorem m_X12_ministry_f165 : Cond.fieldLink RX12 165 "ShameYardsModel" "seen" "I" ∈ wsX12_ministry := by decide +kernel
theorem m_X12_ministry_f112 : Cond.fieldLink RX12 112 "ShameYardsModel" "pageLength" "I" ∈ wsX12_ministry := by decide +kernel
theorem m_X12_ministry_f19 : Cond.fieldLink RX12 19 "ShameYardsModel" "kindOf" "[I" ∈ wsX12_ministry := by decide +kernel
theorem m_X12_ministry_f46 : Cond.fieldLink RX12 46 "ShameYardsModel" "page" "[B" ∈ wsX12_ministry := by decide +kernel
theorem m_X12_ministry_f22 : Cond.fieldLink RX12 22 "ShameYardsModel" "deedsOf" "[I" ∈ wsX12_ministry := by decide +kernel
theorem m_X12_ministry_f25 : Cond.fieldLink RX12 25 "ShameYardsModel" "liesOf" "[I" ∈ wsX12_ministry := by decide +kernel
theorem m_X12_ministry_f28 : Cond.fieldLink RX12 28 "ShameYardsModel" "roomOf" "[I" ∈ wsX12_ministry := by decide +kernel
theorem m_X12_ministry_f31 : Cond.fieldLink RX12 31 "ShameYardsModel" "tookOf" "[I" ∈ wsX12_ministry := by decide +kernel
theorem m_X12_ministry_f153 : Cond.fieldLink RX12 153 "ShameYardsModel" "passages" "I" ∈ wsX12_ministry := by decide +kernel
theorem m_X12_ministry_f7 : Cond.fieldLink RX12 7 "ShameYardsModel" "oneEnd" "[I" ∈ wsX12_ministry := by decide +kernel
theorem m_X12_ministry_f13 : Cond.fieldLink RX12 13 "ShameYardsModel" "otherEnd" "[I" ∈ wsX12_ministry := by decide +kernel
theorem m_X12_ministry_f16 : Cond.fieldLink RX12 16 "ShameYardsModel" "lengthOf" "[I" ∈ wsX12_ministry := by decide +kernel
theorem m_X12_ministry_f132 : Cond.fieldLink RX12 132 "ShameYardsModel" "isWhole" "Z" ∈ wsX12_ministry := by decide +kernel
theorem m_X12_ministry_f150 : Cond.fieldLink RX12 150 "ShameYardsModel" "rooms" "I" ∈ wsX12_ministry := by decide +kernel
theorem m_X12_ministry_f136 : Cond.fieldLink RX12 136 "ShameYardsModel" "newPassages" "I" ∈ wsX12_ministry := by decide +kernel
theorem m_X12_ministry_f126 : Cond.fieldLink RX12 126 "ShameYardsModel" "newPeople" "I" ∈ wsX12_ministry := by decide +kernel
set_option maxHeartbeats 4000000 in
set_option maxRecDepth 100000 in
theorem c_X12_ministry (l : Launch) (D : va_G) (cy : Nat → ClassId) (ad : Nat → Nat) (A : Nat → Prop) (G : Gd A ad nsM)    (M : Mm) (post : Int32 → Mm → Prop) (h : w_X12_ministry  M post) : CI l yX12_ministry wsX12_ministry (rmL 7) D (tysC cy) A ad nsM (ceM ad cy) ExM [.ref (ad 0)] M post := by
  refine Met_V (cc := cX12_ministry) (maxL := 3) (ret := (some .int)) (by decide) rfl G Lo_M ExM_ok (Nat.le_of_ble_eq_true rfl) rfl ?_
  intro p e s m args below meth c C hr hlk
  have C : Cx p s m args c cX12_ministry 3 RX12 wsX12_ministry D (tysC cy) A ad nsM (ceM ad cy) ExM := C
  have L128 : ∀  (n : Nat) (v1 : Int32) (v2 : Int32) (M : Mm), w_X12_ministry_128  post  n v1 v2 M → V p l e (rmL 7) s m args below meth c (MQ below (va_Qi post (Wd D (tysC cy) ad nsM (ceM ad cy) ExM) A) args s 0 0 A) D A ad nsM (ceM ad cy) 3 M [(0, .ref (ad 0)), (1, .int v1), (2, .int v2)] 128 [] := by
    intro  n
    induction n with
    | zero => intro v1 v2 M h; exact h.elim
    | succ n ih =>
    intro v1 v2 M h 
    unfold w_X12_ministry_128 at h
    refine V_iload_n C 2 dX12_ministry_128 rfl ?_
    refine V_aload_n C 0 dX12_ministry_129 rfl ?_
    refine V_get (k0 := 3) (Cn := RX12) (T := TX12) (N := 49) C (nsM_mem (by decide)) rfl iw_X12_ministry_X12 (by decide) rfl m_X12_ministry_f156 (ceM_0 _) rfl dX12_ministry_130 ?_
    refine V_icmp_ge C 217 dX12_ministry_133 (by decide) (fun q1 => ?_) (fun q1 => ?_)
    · have h := h.1 q1
      refine V_aload_n C 0 dX12_ministry_217 rfl ?_
      refine V_iconst (v := (0 : Int32)) C dX12_ministry_218 (by decide) ?_
      refine V_putI (k0 := 12) (Cn := RX12) (T := TX12) (N := 49) C (nsM_mem (by decide)) rfl iw_X12_ministry_X12 (by decide) rfl m_X12_ministry_f159 tyX12_ok nmX12 rfl (show _ = some FieldType.int by decide +kernel) rfl rfl (Nat.le_of_ble_eq_true rfl) (ceM_0 _) (stM0_12  _ _) dX12_ministry_219 (fun M2 e3 => ?_)
      have h := h M2 e3
      refine V_aload_n C 0 dX12_ministry_222 rfl ?_
      refine V_dup C dX12_ministry_223 rfl ?_
      refine V_get (k0 := 0) (Cn := RX12) (T := TX12) (N := 49) C (nsM_mem (by decide)) rfl iw_X12_ministry_X12 (by decide) rfl m_X12_ministry_f162 (ceM_0 _) rfl dX12_ministry_224 ?_
      refine V_iconst (v := (1 : Int32)) C dX12_ministry_227 (by decide) ?_
      refine V_iadd C dX12_ministry_228 ?_
      refine V_putI (k0 := 0) (Cn := RX12) (T := TX12) (N := 49) C (nsM_mem (by decide)) rfl iw_X12_ministry_X12 (by decide) rfl m_X12_ministry_f162 tyX12_ok nmX12 rfl (show _ = some FieldType.int by decide +kernel) rfl rfl (Nat.le_of_ble_eq_true rfl) (ceM_0 _) (stM0_0  _ _) dX12_ministry_229 (fun M4 e5 => ?_)
      have h := h M4 e5
      refine V_aload_n C 0 dX12_ministry_232 rfl ?_
      refine V_iconst (v := (0 : Int32)) C dX12_ministry_233 (by decide) ?_
      refine V_putI (k0 := 14) (Cn := RX12) (T := TX12) (N := 49) C (nsM_mem (by decide)) rfl iw_X12_ministry_X12 (by decide) rfl m_X12_ministry_f165 tyX12_ok nmX12 rfl (show _ = some FieldType.int by decide +kernel) rfl rfl (Nat.le_of_ble_eq_true rfl) (ceM_0 _) (stM0_14  _ _) dX12_ministry_234 (fun M6 e7 => ?_)
      have h := h M6 e7
      refine V_aload_n C 0 dX12_ministry_237 rfl ?_
      refine V_iconst (v := (0 : Int32)) C dX12_ministry_238 (by decide) ?_
      refine V_putI (k0 := 19) (Cn := RX12) (T := TX12) (N := 49) C (nsM_mem (by decide)) rfl iw_X12_ministry_X12 (by decide) rfl m_X12_ministry_f112 tyX12_ok nmX12 rfl (show _ = some FieldType.int by decide +kernel) rfl rfl (Nat.le_of_ble_eq_true rfl) (ceM_0 _) (stM0_19  _ _) dX12_ministry_239 (fun M8 e9 => ?_)
      have h := h M8 e9
      refine V_aload_n C 0 dX12_ministry_242 rfl ?_
      refine V_get (k0 := 3) (Cn := RX12) (T := TX12) (N := 49) C (nsM_mem (by decide)) rfl iw_X12_ministry_X12 (by decide) rfl m_X12_ministry_f156 (ceM_0 _) rfl dX12_ministry_243 ?_
      exact V_iret C hr hlk dX12_ministry_246 h
    · have h := h.2 q1
      refine V_aload_n C 0 dX12_ministry_136 rfl ?_
      refine V_get (k0 := 7) (Cn := RX12) (T := TX12) (N := 49) C (nsM_mem (by decide)) rfl iw_X12_ministry_X12 (by decide) rfl m_X12_ministry_f19 (ceM_0 _) rfl dX12_ministry_137 ?_
      refine V_iload_n C 2 dX12_ministry_140 rfl ?_
      refine V_aload_n C 0 dX12_ministry_141 rfl ?_
      refine V_get (k0 := 20) (Cn := RX12) (T := TX12) (N := 49) C (nsM_mem (by decide)) rfl iw_X12_ministry_X12 (by decide) rfl m_X12_ministry_f46 (ceM_0 _) rfl dX12_ministry_142 ?_
      refine V_iload_n C 1 dX12_ministry_145 rfl ?_
      refine V_iconst (v := (4 : Int32)) C dX12_ministry_146 (by decide) ?_
      refine V_iload_n C 2 dX12_ministry_147 rfl ?_
      refine V_imul C dX12_ministry_148 ?_
      refine V_iadd C dX12_ministry_149 ?_
      have g10 := h.1
      have h := h.2
      refine V_bald (t0 := 0) (L := 52) C (nsM_mem (by decide)) (fun _ => rfl) rfl g10 dX12_ministry_150 ?_
      refine V_callSi (rest := [.int v2, .ref (ad 4)]) C (c_X12_kindBy l D cy ad A G (M.1 13 (v1 + ((4 : Int32) * v2)).toNatClampNeg) M _ h) (va_cwS 1 C.1.2.2.2.2 gX12_ministry_X12_kindBy rfl rfl rfl (by decide +kernel) ⟨by decide, by decide⟩) rfl rfl (Nat.le_of_ble_eq_true rfl) dX12_ministry_151 (fun r11 M12 h => ?_)
      have g14 := h.1
      have h := h.2
      refine V_iast (t0 := 1) (L := 5) C (nsM_mem (by decide)) (fun _ => rfl) rfl g14 dX12_ministry_154 (fun M15 e16 => ?_)
      have h := h M15 e16
      refine V_aload_n C 0 dX12_ministry_155 rfl ?_
      refine V_get (k0 := 8) (Cn := RX12) (T := TX12) (N := 49) C (nsM_mem (by decide)) rfl iw_X12_ministry_X12 (by decide) rfl m_X12_ministry_f22 (ceM_0 _) rfl dX12_ministry_156 ?_
      refine V_iload_n C 2 dX12_ministry_159 rfl ?_
      refine V_aload_n C 0 dX12_ministry_160 rfl ?_
      refine V_get (k0 := 20) (Cn := RX12) (T := TX12) (N := 49) C (nsM_mem (by decide)) rfl iw_X12_ministry_X12 (by decide) rfl m_X12_ministry_f46 (ceM_0 _) rfl dX12_ministry_161 ?_
      refine V_iload_n C 1 dX12_ministry_164 rfl ?_
      refine V_iconst (v := (4 : Int32)) C dX12_ministry_165 (by decide) ?_
      refine V_iload_n C 2 dX12_ministry_166 rfl ?_
      refine V_imul C dX12_ministry_167 ?_
      refine V_iadd C dX12_ministry_168 ?_
      refine V_iconst (v := (1 : Int32)) C dX12_ministry_169 (by decide) ?_
      refine V_iadd C dX12_ministry_170 ?_
      have g17 := h.1
      have h := h.2
      refine V_bald (t0 := 0) (L := 52) C (nsM_mem (by decide)) (fun _ => rfl) rfl g17 dX12_ministry_171 ?_
      refine V_bipush (v := (48 : Int32)) C dX12_ministry_172 (by decide) ?_
      refine V_isub C dX12_ministry_174 ?_
      refine V_iast (t0 := 1) (L := 5) C (nsM_mem (by decide)) (fun _ => rfl) rfl g14 dX12_ministry_175 (fun M18 e19 => ?_)
      have h := h M18 e19
      refine V_aload_n C 0 dX12_ministry_176 rfl ?_
      refine V_get (k0 := 9) (Cn := RX12) (T := TX12) (N := 49) C (nsM_mem (by decide)) rfl iw_X12_ministry_X12 (by decide) rfl m_X12_ministry_f25 (ceM_0 _) rfl dX12_ministry_177 ?_
      refine V_iload_n C 2 dX12_ministry_180 rfl ?_
      refine V_aload_n C 0 dX12_ministry_181 rfl ?_
      refine V_get (k0 := 20) (Cn := RX12) (T := TX12) (N := 49) C (nsM_mem (by decide)) rfl iw_X12_ministry_X12 (by decide) rfl m_X12_ministry_f46 (ceM_0 _) rfl dX12_ministry_182 ?_
      refine V_iload_n C 1 dX12_ministry_185 rfl ?_
      refine V_iconst (v := (4 : Int32)) C dX12_ministry_186 (by decide) ?_
      refine V_iload_n C 2 dX12_ministry_187 rfl ?_
      refine V_imul C dX12_ministry_188 ?_
      refine V_iadd C dX12_ministry_189 ?_
      refine V_iconst (v := (2 : Int32)) C dX12_ministry_190 (by decide) ?_
      refine V_iadd C dX12_ministry_191 ?_
      have g20 := h.1
      have h := h.2
      refine V_bald (t0 := 0) (L := 52) C (nsM_mem (by decide)) (fun _ => rfl) rfl g20 dX12_ministry_192 ?_
      refine V_bipush (v := (48 : Int32)) C dX12_ministry_193 (by decide) ?_
      refine V_isub C dX12_ministry_195 ?_
      refine V_iast (t0 := 1) (L := 5) C (nsM_mem (by decide)) (fun _ => rfl) rfl g14 dX12_ministry_196 (fun M21 e22 => ?_)
      have h := h M21 e22
      refine V_aload_n C 0 dX12_ministry_197 rfl ?_
      refine V_get (k0 := 10) (Cn := RX12) (T := TX12) (N := 49) C (nsM_mem (by decide)) rfl iw_X12_ministry_X12 (by decide) rfl m_X12_ministry_f28 (ceM_0 _) rfl dX12_ministry_198 ?_
      refine V_iload_n C 2 dX12_ministry_201 rfl ?_
      refine V_iconst (v := (0 : Int32)) C dX12_ministry_202 (by decide) ?_
      refine V_iast (t0 := 1) (L := 5) C (nsM_mem (by decide)) (fun _ => rfl) rfl g14 dX12_ministry_203 (fun M23 e24 => ?_)
      have h := h M23 e24
      refine V_aload_n C 0 dX12_ministry_204 rfl ?_
      refine V_get (k0 := 11) (Cn := RX12) (T := TX12) (N := 49) C (nsM_mem (by decide)) rfl iw_X12_ministry_X12 (by decide) rfl m_X12_ministry_f31 (ceM_0 _) rfl dX12_ministry_205 ?_
      refine V_iload_n C 2 dX12_ministry_208 rfl ?_
      refine V_iconst (v := (0 : Int32)) C dX12_ministry_209 (by decide) ?_
      refine V_iast (t0 := 1) (L := 5) C (nsM_mem (by decide)) (fun _ => rfl) rfl g14 dX12_ministry_210 (fun M25 e26 => ?_)
      have h := h M25 e26
      refine V_iinc (v := (v2 + 1)) (lv' := [(2, .int (v2 + 1)), (0, .ref (ad 0)), (1, .int v1)]) C 2 dX12_ministry_211 rfl rfl (by decide) rfl ?_
      refine V_goto C 128 dX12_ministry_214 (by decide) ?_
      refine V_drop (lv' := [(0, .ref (ad 0)), (1, .int v1), (2, .int (v2 + 1))]) [1, 2, 0] rfl ?_
      exact ih v1 (v2 + 1) M25 h 
  have L46 : ∀  (n : Nat) (v1 : Int32) (M : Mm), w_X12_ministry_46  post  n v1 M → V p l e (rmL 7) s m args below meth c (MQ below (va_Qi post (Wd D (tysC cy) ad nsM (ceM ad cy) ExM) A) args s 0 0 A) D A ad nsM (ceM ad cy) 3 M [(0, .ref (ad 0)), (1, .int v1)] 46 [] := by
    intro  n
    induction n with
    | zero => intro v1 M h; exact h.elim
    | succ n ih =>
    intro v1 M h 
    unfold w_X12_ministry_46 at h
    refine V_iload_n C 1 dX12_ministry_46 rfl ?_
    refine V_aload_n C 0 dX12_ministry_47 rfl ?_
    refine V_get (k0 := 2) (Cn := RX12) (T := TX12) (N := 49) C (nsM_mem (by decide)) rfl iw_X12_ministry_X12 (by decide) rfl m_X12_ministry_f153 (ceM_0 _) rfl dX12_ministry_48 ?_
    refine V_icmp_ge C 117 dX12_ministry_51 (by decide) (fun q27 => ?_) (fun q27 => ?_)
    · have h := h.1 q27
      refine V_iconst (v := (2 : Int32)) C dX12_ministry_117 (by decide) ?_
      refine V_iconst (v := (4 : Int32)) C dX12_ministry_118 (by decide) ?_
      refine V_aload_n C 0 dX12_ministry_119 rfl ?_
      refine V_get (k0 := 2) (Cn := RX12) (T := TX12) (N := 49) C (nsM_mem (by decide)) rfl iw_X12_ministry_X12 (by decide) rfl m_X12_ministry_f153 (ceM_0 _) rfl dX12_ministry_120 ?_
      refine V_imul C dX12_ministry_123 ?_
      refine V_iadd C dX12_ministry_124 ?_
      refine V_istore_n (lv' := [(1, .int ((2 : Int32) + ((4 : Int32) * (M.1 0 2)))), (0, .ref (ad 0))]) C dX12_ministry_125 rfl (by decide) rfl ?_
      refine V_iconst (v := (0 : Int32)) C dX12_ministry_126 (by decide) ?_
      refine V_istore_n (lv' := [(2, .int (0 : Int32)), (1, .int ((2 : Int32) + ((4 : Int32) * (M.1 0 2)))), (0, .ref (ad 0))]) C dX12_ministry_127 rfl (by decide) rfl ?_
      refine V_drop (lv' := [(0, .ref (ad 0)), (1, .int ((2 : Int32) + ((4 : Int32) * (M.1 0 2)))), (2, .int (0 : Int32))]) [2, 1, 0] rfl ?_
      obtain ⟨n0, h⟩ := h
      exact L128  n0 ((2 : Int32) + ((4 : Int32) * (M.1 0 2))) (0 : Int32) M h 
    · have h := h.2 q27
      refine V_aload_n C 0 dX12_ministry_54 rfl ?_
      refine V_get (k0 := 4) (Cn := RX12) (T := TX12) (N := 49) C (nsM_mem (by decide)) rfl iw_X12_ministry_X12 (by decide) rfl m_X12_ministry_f7 (ceM_0 _) rfl dX12_ministry_55 ?_
      refine V_iload_n C 1 dX12_ministry_58 rfl ?_
      refine V_aload_n C 0 dX12_ministry_59 rfl ?_
      refine V_get (k0 := 20) (Cn := RX12) (T := TX12) (N := 49) C (nsM_mem (by decide)) rfl iw_X12_ministry_X12 (by decide) rfl m_X12_ministry_f46 (ceM_0 _) rfl dX12_ministry_60 ?_
      refine V_iconst (v := (2 : Int32)) C dX12_ministry_63 (by decide) ?_
      refine V_iconst (v := (4 : Int32)) C dX12_ministry_64 (by decide) ?_
      refine V_iload_n C 1 dX12_ministry_65 rfl ?_
      refine V_imul C dX12_ministry_66 ?_
      refine V_iadd C dX12_ministry_67 ?_
      have g28 := h.1
      have h := h.2
      refine V_bald (t0 := 0) (L := 52) C (nsM_mem (by decide)) (fun _ => rfl) rfl g28 dX12_ministry_68 ?_
      refine V_bipush (v := (48 : Int32)) C dX12_ministry_69 (by decide) ?_
      refine V_isub C dX12_ministry_71 ?_
      have g29 := h.1
      have h := h.2
      refine V_iast (t0 := 1) (L := 7) C (nsM_mem (by decide)) (fun _ => rfl) rfl g29 dX12_ministry_72 (fun M30 e31 => ?_)
      have h := h M30 e31
      refine V_aload_n C 0 dX12_ministry_73 rfl ?_
      refine V_get (k0 := 5) (Cn := RX12) (T := TX12) (N := 49) C (nsM_mem (by decide)) rfl iw_X12_ministry_X12 (by decide) rfl m_X12_ministry_f13 (ceM_0 _) rfl dX12_ministry_74 ?_
      refine V_iload_n C 1 dX12_ministry_77 rfl ?_
      refine V_aload_n C 0 dX12_ministry_78 rfl ?_
      refine V_get (k0 := 20) (Cn := RX12) (T := TX12) (N := 49) C (nsM_mem (by decide)) rfl iw_X12_ministry_X12 (by decide) rfl m_X12_ministry_f46 (ceM_0 _) rfl dX12_ministry_79 ?_
      refine V_iconst (v := (3 : Int32)) C dX12_ministry_82 (by decide) ?_
      refine V_iconst (v := (4 : Int32)) C dX12_ministry_83 (by decide) ?_
      refine V_iload_n C 1 dX12_ministry_84 rfl ?_
      refine V_imul C dX12_ministry_85 ?_
      refine V_iadd C dX12_ministry_86 ?_
      have g32 := h.1
      have h := h.2
      refine V_bald (t0 := 0) (L := 52) C (nsM_mem (by decide)) (fun _ => rfl) rfl g32 dX12_ministry_87 ?_
      refine V_bipush (v := (48 : Int32)) C dX12_ministry_88 (by decide) ?_
      refine V_isub C dX12_ministry_90 ?_
      refine V_iast (t0 := 1) (L := 7) C (nsM_mem (by decide)) (fun _ => rfl) rfl g29 dX12_ministry_91 (fun M33 e34 => ?_)
      have h := h M33 e34
      refine V_aload_n C 0 dX12_ministry_92 rfl ?_
      refine V_get (k0 := 6) (Cn := RX12) (T := TX12) (N := 49) C (nsM_mem (by decide)) rfl iw_X12_ministry_X12 (by decide) rfl m_X12_ministry_f16 (ceM_0 _) rfl dX12_ministry_93 ?_
      refine V_iload_n C 1 dX12_ministry_96 rfl ?_
      refine V_aload_n C 0 dX12_ministry_97 rfl ?_
      refine V_get (k0 := 20) (Cn := RX12) (T := TX12) (N := 49) C (nsM_mem (by decide)) rfl iw_X12_ministry_X12 (by decide) rfl m_X12_ministry_f46 (ceM_0 _) rfl dX12_ministry_98 ?_
      refine V_iconst (v := (4 : Int32)) C dX12_ministry_101 (by decide) ?_
      refine V_iconst (v := (4 : Int32)) C dX12_ministry_102 (by decide) ?_
      refine V_iload_n C 1 dX12_ministry_103 rfl ?_
      refine V_imul C dX12_ministry_104 ?_
      refine V_iadd C dX12_ministry_105 ?_
      have g35 := h.1
      have h := h.2
      refine V_bald (t0 := 0) (L := 52) C (nsM_mem (by decide)) (fun _ => rfl) rfl g35 dX12_ministry_106 ?_
      refine V_bipush (v := (48 : Int32)) C dX12_ministry_107 (by decide) ?_
      refine V_isub C dX12_ministry_109 ?_
      refine V_iast (t0 := 1) (L := 7) C (nsM_mem (by decide)) (fun _ => rfl) rfl g29 dX12_ministry_110 (fun M36 e37 => ?_)
      have h := h M36 e37
      refine V_iinc (v := (v1 + 1)) (lv' := [(1, .int (v1 + 1)), (0, .ref (ad 0))]) C 1 dX12_ministry_111 rfl rfl (by decide) rfl ?_
      refine V_goto C 46 dX12_ministry_114 (by decide) ?_
      refine V_drop (lv' := [(0, .ref (ad 0)), (1, .int (v1 + 1))]) [1, 0] rfl ?_
      exact ih (v1 + 1) M36 h 
  unfold w_X12_ministry at h
  refine V_aload_n C 0 dX12_ministry_0 rfl ?_
  refine V_callVi (q := (RX12, TX12, 49)) (rest := []) C (nsM_mem (by decide)) (ceM_0 _) rfl (c_X12_read l D cy ad A G  M _ h) (cwV 0 C.1.2.2.2.2 gX12_ministry_X12_read rfl rfl rfl (by decide +kernel) ⟨by decide, by decide⟩) rfl rfl (Nat.le_of_ble_eq_true rfl) dX12_ministry_1 (fun r38 M39 h => ?_)
  refine V_pop C dX12_ministry_4 rfl ?_
  refine V_aload_n C 0 dX12_ministry_5 rfl ?_
  refine V_get (k0 := 21) (Cn := RX12) (T := TX12) (N := 49) C (nsM_mem (by decide)) rfl iw_X12_ministry_X12 (by decide) rfl m_X12_ministry_f132 (ceM_0 _) rfl dX12_ministry_6 ?_
  refine V_if_ne C 15 dX12_ministry_9 (by decide) (fun q41 => ?_) (fun q41 => ?_)
  · have h := h.1 q41
    refine V_aload_n C 0 dX12_ministry_15 rfl ?_
    refine V_aload_n C 0 dX12_ministry_16 rfl ?_
    refine V_get (k0 := 20) (Cn := RX12) (T := TX12) (N := 49) C (nsM_mem (by decide)) rfl iw_X12_ministry_X12 (by decide) rfl m_X12_ministry_f46 (ceM_0 _) rfl dX12_ministry_17 ?_
    refine V_iconst (v := (0 : Int32)) C dX12_ministry_20 (by decide) ?_
    refine V_bald (t0 := 0) (L := 52) C (nsM_mem (by decide)) (fun _ => rfl) rfl (by unfold vp_in; decide) dX12_ministry_21 ?_
    refine V_bipush (v := (48 : Int32)) C dX12_ministry_22 (by decide) ?_
    refine V_isub C dX12_ministry_24 ?_
    refine V_putI (k0 := 1) (Cn := RX12) (T := TX12) (N := 49) C (nsM_mem (by decide)) rfl iw_X12_ministry_X12 (by decide) rfl m_X12_ministry_f150 tyX12_ok nmX12 rfl (show _ = some FieldType.int by decide +kernel) rfl rfl (Nat.le_of_ble_eq_true rfl) (ceM_0 _) (stM0_1  _ _) dX12_ministry_25 (fun M42 e43 => ?_)
    have h := h M42 e43
    refine V_aload_n C 0 dX12_ministry_28 rfl ?_
    refine V_aload_n C 0 dX12_ministry_29 rfl ?_
    refine V_get (k0 := 22) (Cn := RX12) (T := TX12) (N := 49) C (nsM_mem (by decide)) rfl iw_X12_ministry_X12 (by decide) rfl m_X12_ministry_f136 (ceM_0 _) rfl dX12_ministry_30 ?_
    refine V_putI (k0 := 2) (Cn := RX12) (T := TX12) (N := 49) C (nsM_mem (by decide)) rfl iw_X12_ministry_X12 (by decide) rfl m_X12_ministry_f153 tyX12_ok nmX12 rfl (show _ = some FieldType.int by decide +kernel) rfl rfl (Nat.le_of_ble_eq_true rfl) (ceM_0 _) (stM0_2  _ _) dX12_ministry_33 (fun M44 e45 => ?_)
    have h := h M44 e45
    refine V_aload_n C 0 dX12_ministry_36 rfl ?_
    refine V_aload_n C 0 dX12_ministry_37 rfl ?_
    refine V_get (k0 := 23) (Cn := RX12) (T := TX12) (N := 49) C (nsM_mem (by decide)) rfl iw_X12_ministry_X12 (by decide) rfl m_X12_ministry_f126 (ceM_0 _) rfl dX12_ministry_38 ?_
    refine V_putI (k0 := 3) (Cn := RX12) (T := TX12) (N := 49) C (nsM_mem (by decide)) rfl iw_X12_ministry_X12 (by decide) rfl m_X12_ministry_f156 tyX12_ok nmX12 rfl (show _ = some FieldType.int by decide +kernel) rfl rfl (Nat.le_of_ble_eq_true rfl) (ceM_0 _) (stM0_3  _ _) dX12_ministry_41 (fun M46 e47 => ?_)
    have h := h M46 e47
    refine V_iconst (v := (0 : Int32)) C dX12_ministry_44 (by decide) ?_
    refine V_istore_n (lv' := [(1, .int (0 : Int32)), (0, .ref (ad 0))]) C dX12_ministry_45 rfl (by decide) rfl ?_
    refine V_drop (lv' := [(0, .ref (ad 0)), (1, .int (0 : Int32))]) [1, 0] rfl ?_
    obtain ⟨n0, h⟩ := h
    exact L46  n0 (0 : Int32) M46 h 
  · have h := h.2 q41
    refine V_bipush (v := (-103 : Int32)) C dX12_ministry_12 (by decide) ?_
    exact V_iret C hr hlk dX12_ministry_14 h
def w_X12_isPerson (x1 : Int32) (M : Mm) (post : Int32 → Mm → Prop) : Prop :=
  w_X12_within x1 (0 : Int32) ((M.1 0 3) - (1 : Int32)) M (fun r1 M2 => post r1 M2)
theorem iw_X12_isPerson_X12 : ∀ w ∈ u_ws RX12 TX12 49, w ∈ wsX12_isPerson := by decide +kernel
theorem m_X12_isPerson_f156 : Cond.fieldLink RX12 156 "ShameYardsModel" "people" "I" ∈ wsX12_isPerson := by decide +kernel
set_option maxHeartbeats 4000000 in
set_option maxRecDepth 100000 in
theorem c_X12_isPerson (l : Launch) (D : va_G) (cy : Nat → ClassId) (ad : Nat → Nat) (A : Nat → Prop) (G : Gd A ad nsM)   (x1 : Int32) (M : Mm) (post : Int32 → Mm → Prop) (h : w_X12_isPerson x1 M post) : CI l yX12_isPerson wsX12_isPerson (rmL 3) D (tysC cy) A ad nsM (ceM ad cy) ExM [.ref (ad 0), .int x1] M (fun r M' => (r = 0 ∨ r = 1) ∧ post r M') := by
  refine Met_V (cc := cX12_isPerson) (maxL := 2) (ret := (some .boolean)) (by decide) rfl G Lo_M ExM_ok (Nat.le_of_ble_eq_true rfl) rfl ?_
  intro p e s m args below meth c C hr hlk
  have C : Cx p s m args c cX12_isPerson 2 RX12 wsX12_isPerson D (tysC cy) A ad nsM (ceM ad cy) ExM := C
  unfold w_X12_isPerson at h
  refine V_iload_n C 1 dX12_isPerson_0 rfl ?_
  refine V_iconst (v := (0 : Int32)) C dX12_isPerson_1 (by decide) ?_
  refine V_aload_n C 0 dX12_isPerson_2 rfl ?_
  refine V_get (k0 := 3) (Cn := RX12) (T := TX12) (N := 49) C (nsM_mem (by decide)) rfl iw_X12_isPerson_X12 (by decide) rfl m_X12_isPerson_f156 (ceM_0 _) rfl dX12_isPerson_3 ?_
  refine V_iconst (v := (1 : Int32)) C dX12_isPerson_6 (by decide) ?_
  refine V_isub C dX12_isPerson_7 ?_
  refine V_callSi (rest := []) C (c_X12_within l D cy ad A G x1 (0 : Int32) ((M.1 0 3) - (1 : Int32)) M _ h) (va_cwS 3 C.1.2.2.2.2 gX12_isPerson_X12_within rfl rfl rfl (by decide +kernel) ⟨by decide, by decide⟩) rfl rfl (Nat.le_of_ble_eq_true rfl) dX12_isPerson_8 (fun r1 M2 h => ?_)
  obtain ⟨z3, h⟩ := h
  exact V_zret C hr hlk z3 dX12_isPerson_11 h
def w_X12_isPassage (x1 : Int32) (M : Mm) (post : Int32 → Mm → Prop) : Prop :=
  w_X12_within x1 (0 : Int32) ((M.1 0 2) - (1 : Int32)) M (fun r1 M2 => post r1 M2)
theorem iw_X12_isPassage_X12 : ∀ w ∈ u_ws RX12 TX12 49, w ∈ wsX12_isPassage := by decide +kernel
theorem m_X12_isPassage_f153 : Cond.fieldLink RX12 153 "ShameYardsModel" "passages" "I" ∈ wsX12_isPassage := by decide +kernel
set_option maxHeartbeats 4000000 in
set_option maxRecDepth 100000 in
theorem c_X12_isPassage (l : Launch) (D : va_G) (cy : Nat → ClassId) (ad : Nat → Nat) (A : Nat → Prop) (G : Gd A ad nsM)   (x1 : Int32) (M : Mm) (post : Int32 → Mm → Prop) (h : w_X12_isPassage x1 M post) : CI l yX12_isPassage wsX12_isPassage (rmL 3) D (tysC cy) A ad nsM (ceM ad cy) ExM [.ref (ad 0), .int x1] M (fun r M' => (r = 0 ∨ r = 1) ∧ post r M') := by
  refine Met_V (cc := cX12_isPassage) (maxL := 2) (ret := (some .boolean)) (by decide) rfl G Lo_M ExM_ok (Nat.le_of_ble_eq_true rfl) rfl ?_
  intro p e s m args below meth c C hr hlk
  have C : Cx p s m args c cX12_isPassage 2 RX12 wsX12_isPassage D (tysC cy) A ad nsM (ceM ad cy) ExM := C
  unfold w_X12_isPassage at h
  refine V_iload_n C 1 dX12_isPassage_0 rfl ?_
  refine V_iconst (v := (0 : Int32)) C dX12_isPassage_1 (by decide) ?_
  refine V_aload_n C 0 dX12_isPassage_2 rfl ?_
  refine V_get (k0 := 2) (Cn := RX12) (T := TX12) (N := 49) C (nsM_mem (by decide)) rfl iw_X12_isPassage_X12 (by decide) rfl m_X12_isPassage_f153 (ceM_0 _) rfl dX12_isPassage_3 ?_
  refine V_iconst (v := (1 : Int32)) C dX12_isPassage_6 (by decide) ?_
  refine V_isub C dX12_isPassage_7 ?_
  refine V_callSi (rest := []) C (c_X12_within l D cy ad A G x1 (0 : Int32) ((M.1 0 2) - (1 : Int32)) M _ h) (va_cwS 3 C.1.2.2.2.2 gX12_isPassage_X12_within rfl rfl rfl (by decide +kernel) ⟨by decide, by decide⟩) rfl rfl (Nat.le_of_ble_eq_true rfl) dX12_isPassage_8 (fun r1 M2 h => ?_)
  obtain ⟨z3, h⟩ := h
  exact V_zret C hr hlk z3 dX12_isPassage_11 h
def w_X12_isRoom (x1 : Int32) (M : Mm) (post : Int32 → Mm → Prop) : Prop :=
  w_X12_within x1 (0 : Int32) ((M.1 0 1) - (1 : Int32)) M (fun r1 M2 => post r1 M2)
theorem iw_X12_isRoom_X12 : ∀ w ∈ u_ws RX12 TX12 49, w ∈ wsX12_isRoom := by decide +kernel
theorem m_X12_isRoom_f150 : Cond.fieldLink RX12 150 "ShameYardsModel" "rooms" "I" ∈ wsX12_isRoom := by decide +kernel
set_option maxHeartbeats 4000000 in
set_option maxRecDepth 100000 in
theorem c_X12_isRoom (l : Launch) (D : va_G) (cy : Nat → ClassId) (ad : Nat → Nat) (A : Nat → Prop) (G : Gd A ad nsM)   (x1 : Int32) (M : Mm) (post : Int32 → Mm → Prop) (h : w_X12_isRoom x1 M post) : CI l yX12_isRoom wsX12_isRoom (rmL 3) D (tysC cy) A ad nsM (ceM ad cy) ExM [.ref (ad 0), .int x1] M (fun r M' => (r = 0 ∨ r = 1) ∧ post r M') := by
  refine Met_V (cc := cX12_isRoom) (maxL := 2) (ret := (some .boolean)) (by decide) rfl G Lo_M ExM_ok (Nat.le_of_ble_eq_true rfl) rfl ?_
  intro p e s m args below meth c C hr hlk
  have C : Cx p s m args c cX12_isRoom 2 RX12 wsX12_isRoom D (tysC cy) A ad nsM (ceM ad cy) ExM := C
  unfold w_X12_isRoom at h
  refine V_iload_n C 1 dX12_isRoom_0 rfl ?_
  refine V_iconst (v := (0 : Int32)) C dX12_isRoom_1 (by decide) ?_
  refine V_aload_n C 0 dX12_isRoom_2 rfl ?_
  refine V_get (k0 := 1) (Cn := RX12) (T := TX12) (N := 49) C (nsM_mem (by decide)) rfl iw_X12_isRoom_X12 (by decide) rfl m_X12_isRoom_f150 (ceM_0 _) rfl dX12_isRoom_3 ?_
  refine V_iconst (v := (1 : Int32)) C dX12_isRoom_6 (by decide) ?_
  refine V_isub C dX12_isRoom_7 ?_
  refine V_callSi (rest := []) C (c_X12_within l D cy ad A G x1 (0 : Int32) ((M.1 0 1) - (1 : Int32)) M _ h) (va_cwS 3 C.1.2.2.2.2 gX12_isRoom_X12_within rfl rfl rfl (by decide +kernel) ⟨by decide, by decide⟩) rfl rfl (Nat.le_of_ble_eq_true rfl) dX12_isRoom_8 (fun r1 M2 h => ?_)
  obtain ⟨z3, h⟩ := h
  exact V_zret C hr hlk z3 dX12_isRoom_11 h
def w_X12_isWith (x1 : Int32) (x2 : Int32) (M : Mm) (post : Int32 → Mm → Prop) : Prop :=
  ((x2 = (-1 : Int32)) → (post (1 : Int32) M)) ∧ ((¬ x2 = (-1 : Int32)) → (w_X12_isPerson x2 M (fun r2 M3 => ((r2 = 0) → (post (0 : Int32) M3)) ∧ ((¬ r2 = 0) → (((x2 = x1) → (post (0 : Int32) M3)) ∧ ((¬ x2 = x1) → (post (1 : Int32) M3)))))))
set_option maxHeartbeats 4000000 in
set_option maxRecDepth 100000 in
theorem c_X12_isWith (l : Launch) (D : va_G) (cy : Nat → ClassId) (ad : Nat → Nat) (A : Nat → Prop) (G : Gd A ad nsM)   (x1 : Int32) (x2 : Int32) (M : Mm) (post : Int32 → Mm → Prop) (h : w_X12_isWith x1 x2 M post) : CI l yX12_isWith wsX12_isWith (rmL 4) D (tysC cy) A ad nsM (ceM ad cy) ExM [.ref (ad 0), .int x1, .int x2] M (fun r M' => (r = 0 ∨ r = 1) ∧ post r M') := by
  refine Met_V (cc := cX12_isWith) (maxL := 3) (ret := (some .boolean)) (by decide) rfl G Lo_M ExM_ok (Nat.le_of_ble_eq_true rfl) rfl ?_
  intro p e s m args below meth c C hr hlk
  have C : Cx p s m args c cX12_isWith 3 RX12 wsX12_isWith D (tysC cy) A ad nsM (ceM ad cy) ExM := C
  unfold w_X12_isWith at h
  refine V_iload_n C 2 dX12_isWith_0 rfl ?_
  refine V_iconst (v := (-1 : Int32)) C dX12_isWith_1 (by decide) ?_
  refine V_icmp_eq C 18 dX12_isWith_2 (by decide) (fun q1 => ?_) (fun q1 => ?_)
  · have h := h.1 q1
    refine V_iconst (v := (1 : Int32)) C dX12_isWith_18 (by decide) ?_
    refine V_goto C 23 dX12_isWith_19 (by decide) ?_
    exact V_zret C hr hlk (Or.inr rfl) dX12_isWith_23 h
  · have h := h.2 q1
    refine V_aload_n C 0 dX12_isWith_5 rfl ?_
    refine V_iload_n C 2 dX12_isWith_6 rfl ?_
    refine V_callVi (q := (RX12, TX12, 49)) (rest := []) C (nsM_mem (by decide)) (ceM_0 _) rfl (c_X12_isPerson l D cy ad A G x2 M _ h) (cwV 1 C.1.2.2.2.2 gX12_isWith_X12_isPerson rfl rfl rfl (by decide +kernel) ⟨by decide, by decide⟩) rfl rfl (Nat.le_of_ble_eq_true rfl) dX12_isWith_7 (fun r2 M3 h => ?_)
    obtain ⟨z4, h⟩ := h
    refine V_if_eq C 22 dX12_isWith_10 (by decide) (fun q5 => ?_) (fun q5 => ?_)
    · have h := h.1 q5
      refine V_iconst (v := (0 : Int32)) C dX12_isWith_22 (by decide) ?_
      exact V_zret C hr hlk (Or.inl rfl) dX12_isWith_23 h
    · have h := h.2 q5
      refine V_iload_n C 2 dX12_isWith_13 rfl ?_
      refine V_iload_n C 1 dX12_isWith_14 rfl ?_
      refine V_icmp_eq C 22 dX12_isWith_15 (by decide) (fun q6 => ?_) (fun q6 => ?_)
      · have h := h.1 q6
        refine V_iconst (v := (0 : Int32)) C dX12_isWith_22 (by decide) ?_
        exact V_zret C hr hlk (Or.inl rfl) dX12_isWith_23 h
      · have h := h.2 q6
        refine V_iconst (v := (1 : Int32)) C dX12_isWith_18 (by decide) ?_
        refine V_goto C 23 dX12_isWith_19 (by decide) ?_
        exact V_zret C hr hlk (Or.inr rfl) dX12_isWith_23 h
def w_X12_alone (x1 : Int32) (x2 : Int32) (M : Mm) (post : Int32 → Mm → Prop) : Prop :=
  (vp_in x2 7) ∧ ((vp_in x1 5) ∧ ((((M.1 4 x1.toNatClampNeg) = 1) → (post (((((M.1 3 x2.toNatClampNeg) + (M.1 5 x1.toNatClampNeg)) + ((2 : Int32) * (M.1 6 x1.toNatClampNeg))) + (1 : Int32)) / (2 : Int32)) M)) ∧ ((¬ (M.1 4 x1.toNatClampNeg) = 1) → ((((M.1 4 x1.toNatClampNeg) = 2) → (post ((((M.1 3 x2.toNatClampNeg) + (M.1 5 x1.toNatClampNeg)) + ((2 : Int32) * (M.1 6 x1.toNatClampNeg))) + ((2 : Int32) * (M.1 5 x1.toNatClampNeg))) M)) ∧ ((¬ (M.1 4 x1.toNatClampNeg) = 2) → ((((M.1 4 x1.toNatClampNeg) = 3) → (post (((((M.1 3 x2.toNatClampNeg) + (M.1 5 x1.toNatClampNeg)) + ((2 : Int32) * (M.1 6 x1.toNatClampNeg))) + (4 : Int32)) / (5 : Int32)) M)) ∧ ((¬ (M.1 4 x1.toNatClampNeg) = 3) → ((((M.1 4 x1.toNatClampNeg) = 4) → (post ((2 : Int32) * ((((M.1 3 x2.toNatClampNeg) + (M.1 5 x1.toNatClampNeg)) + ((2 : Int32) * (M.1 6 x1.toNatClampNeg))) + ((2 : Int32) * (M.1 5 x1.toNatClampNeg)))) M)) ∧ ((¬ (M.1 4 x1.toNatClampNeg) = 4) → (post (((M.1 3 x2.toNatClampNeg) + (M.1 5 x1.toNatClampNeg)) + ((2 : Int32) * (M.1 6 x1.toNatClampNeg))) M))))))))))
theorem iw_X12_alone_X12 : ∀ w ∈ u_ws RX12 TX12 49, w ∈ wsX12_alone := by decide +kernel
theorem m_X12_alone_f16 : Cond.fieldLink RX12 16 "ShameYardsModel" "lengthOf" "[I" ∈ wsX12_alone := by decide +kernel
theorem m_X12_alone_f22 : Cond.fieldLink RX12 22 "ShameYardsModel" "deedsOf" "[I" ∈ wsX12_alone := by decide +kernel
theorem m_X12_alone_f25 : Cond.fieldLink RX12 25 "ShameYardsModel" "liesOf" "[I" ∈ wsX12_alone := by decide +kernel
theorem m_X12_alone_f19 : Cond.fieldLink RX12 19 "ShameYardsModel" "kindOf" "[I" ∈ wsX12_alone := by decide +kernel
set_option maxHeartbeats 4000000 in
set_option maxRecDepth 100000 in
theorem c_X12_alone (l : Launch) (D : va_G) (cy : Nat → ClassId) (ad : Nat → Nat) (A : Nat → Prop) (G : Gd A ad nsM)   (x1 : Int32) (x2 : Int32) (M : Mm) (post : Int32 → Mm → Prop) (h : w_X12_alone x1 x2 M post) : CI l yX12_alone wsX12_alone (rmL 2) D (tysC cy) A ad nsM (ceM ad cy) ExM [.ref (ad 0), .int x1, .int x2] M post := by
  refine Met_V (cc := cX12_alone) (maxL := 5) (ret := (some .int)) (by decide) rfl G Lo_M ExM_ok (Nat.le_of_ble_eq_true rfl) rfl ?_
  intro p e s m args below meth c C hr hlk
  have C : Cx p s m args c cX12_alone 5 RX12 wsX12_alone D (tysC cy) A ad nsM (ceM ad cy) ExM := C
  unfold w_X12_alone at h
  refine V_aload_n C 0 dX12_alone_0 rfl ?_
  refine V_get (k0 := 6) (Cn := RX12) (T := TX12) (N := 49) C (nsM_mem (by decide)) rfl iw_X12_alone_X12 (by decide) rfl m_X12_alone_f16 (ceM_0 _) rfl dX12_alone_1 ?_
  refine V_iload_n C 2 dX12_alone_4 rfl ?_
  have g1 := h.1
  have h := h.2
  refine V_iald (t0 := 1) (L := 7) C (nsM_mem (by decide)) (fun _ => rfl) rfl g1 dX12_alone_5 ?_
  refine V_aload_n C 0 dX12_alone_6 rfl ?_
  refine V_get (k0 := 8) (Cn := RX12) (T := TX12) (N := 49) C (nsM_mem (by decide)) rfl iw_X12_alone_X12 (by decide) rfl m_X12_alone_f22 (ceM_0 _) rfl dX12_alone_7 ?_
  refine V_iload_n C 1 dX12_alone_10 rfl ?_
  have g2 := h.1
  have h := h.2
  refine V_iald (t0 := 1) (L := 5) C (nsM_mem (by decide)) (fun _ => rfl) rfl g2 dX12_alone_11 ?_
  refine V_iadd C dX12_alone_12 ?_
  refine V_iconst (v := (2 : Int32)) C dX12_alone_13 (by decide) ?_
  refine V_aload_n C 0 dX12_alone_14 rfl ?_
  refine V_get (k0 := 9) (Cn := RX12) (T := TX12) (N := 49) C (nsM_mem (by decide)) rfl iw_X12_alone_X12 (by decide) rfl m_X12_alone_f25 (ceM_0 _) rfl dX12_alone_15 ?_
  refine V_iload_n C 1 dX12_alone_18 rfl ?_
  refine V_iald (t0 := 1) (L := 5) C (nsM_mem (by decide)) (fun _ => rfl) rfl g2 dX12_alone_19 ?_
  refine V_imul C dX12_alone_20 ?_
  refine V_iadd C dX12_alone_21 ?_
  refine V_istore_n (lv' := [(3, .int (((M.1 3 x2.toNatClampNeg) + (M.1 5 x1.toNatClampNeg)) + ((2 : Int32) * (M.1 6 x1.toNatClampNeg)))), (0, .ref (ad 0)), (1, .int x1), (2, .int x2)]) C dX12_alone_22 rfl (by decide) rfl ?_
  refine V_iload_n C 0 dX12_alone_23 rfl ?_
  refine V_iconst (v := (2 : Int32)) C dX12_alone_24 (by decide) ?_
  refine V_aload_n C 1 dX12_alone_25 rfl ?_
  refine V_get (k0 := 8) (Cn := RX12) (T := TX12) (N := 49) C (nsM_mem (by decide)) rfl iw_X12_alone_X12 (by decide) rfl m_X12_alone_f22 (ceM_0 _) rfl dX12_alone_26 ?_
  refine V_iload_n C 2 dX12_alone_29 rfl ?_
  refine V_iald (t0 := 1) (L := 5) C (nsM_mem (by decide)) (fun _ => rfl) rfl g2 dX12_alone_30 ?_
  refine V_imul C dX12_alone_31 ?_
  refine V_iadd C dX12_alone_32 ?_
  refine V_istore (lv' := [(4, .int ((((M.1 3 x2.toNatClampNeg) + (M.1 5 x1.toNatClampNeg)) + ((2 : Int32) * (M.1 6 x1.toNatClampNeg))) + ((2 : Int32) * (M.1 5 x1.toNatClampNeg)))), (3, .int (((M.1 3 x2.toNatClampNeg) + (M.1 5 x1.toNatClampNeg)) + ((2 : Int32) * (M.1 6 x1.toNatClampNeg)))), (0, .ref (ad 0)), (1, .int x1), (2, .int x2)]) C dX12_alone_33 (by decide) rfl ?_
  refine V_aload_n C 2 dX12_alone_35 rfl ?_
  refine V_get (k0 := 7) (Cn := RX12) (T := TX12) (N := 49) C (nsM_mem (by decide)) rfl iw_X12_alone_X12 (by decide) rfl m_X12_alone_f19 (ceM_0 _) rfl dX12_alone_36 ?_
  refine V_iload_n C 3 dX12_alone_39 rfl ?_
  refine V_iald (t0 := 1) (L := 5) C (nsM_mem (by decide)) (fun _ => rfl) rfl g2 dX12_alone_40 ?_
  by_cases q3 : (M.1 4 x1.toNatClampNeg) = 1
  · have h := h.1 q3
    refine V_tswIn C 72 dX12_alone_41 (by rw [q3]; decide) (by rw [q3]; decide) (by rw [q3]; rfl) (by decide) ?_
    refine V_iload_n C 1 dX12_alone_72 rfl ?_
    refine V_iconst (v := (1 : Int32)) C dX12_alone_73 (by decide) ?_
    refine V_iadd C dX12_alone_74 ?_
    refine V_iconst (v := (2 : Int32)) C dX12_alone_75 (by decide) ?_
    refine V_idiv C dX12_alone_76 (by decide) ?_
    exact V_iret C hr hlk dX12_alone_77 h
  · have h := h.2 q3
    by_cases q4 : (M.1 4 x1.toNatClampNeg) = 2
    · have h := h.1 q4
      refine V_tswIn C 78 dX12_alone_41 (by rw [q4]; decide) (by rw [q4]; decide) (by rw [q4]; rfl) (by decide) ?_
      refine V_iload C 0 dX12_alone_78 rfl ?_
      exact V_iret C hr hlk dX12_alone_80 h
    · have h := h.2 q4
      by_cases q5 : (M.1 4 x1.toNatClampNeg) = 3
      · have h := h.1 q5
        refine V_tswIn C 81 dX12_alone_41 (by rw [q5]; decide) (by rw [q5]; decide) (by rw [q5]; rfl) (by decide) ?_
        refine V_iload_n C 1 dX12_alone_81 rfl ?_
        refine V_iconst (v := (4 : Int32)) C dX12_alone_82 (by decide) ?_
        refine V_iadd C dX12_alone_83 ?_
        refine V_iconst (v := (5 : Int32)) C dX12_alone_84 (by decide) ?_
        refine V_idiv C dX12_alone_85 (by decide) ?_
        exact V_iret C hr hlk dX12_alone_86 h
      · have h := h.2 q5
        by_cases q6 : (M.1 4 x1.toNatClampNeg) = 4
        · have h := h.1 q6
          refine V_tswIn C 87 dX12_alone_41 (by rw [q6]; decide) (by rw [q6]; decide) (by rw [q6]; rfl) (by decide) ?_
          refine V_iconst (v := (2 : Int32)) C dX12_alone_87 (by decide) ?_
          refine V_iload C 0 dX12_alone_88 rfl ?_
          refine V_imul C dX12_alone_90 ?_
          exact V_iret C hr hlk dX12_alone_91 h
        · have h := h.2 q6
          refine V_tswOut C 92 dX12_alone_41 (by have := lv_neT q3 (show (1 : Int32).toInt = 1 by decide); have := lv_neT q4 (show (2 : Int32).toInt = 2 by decide); have := lv_neT q5 (show (3 : Int32).toInt = 3 by decide); have := lv_neT q6 (show (4 : Int32).toInt = 4 by decide); omega) (by decide) ?_
          refine V_iload_n C 1 dX12_alone_92 rfl ?_
          exact V_iret C hr hlk dX12_alone_93 h
def w_X12_stepsOf (x1 : Int32) (x2 : Int32) (x3 : Int32) (M : Mm) (post : Int32 → Mm → Prop) : Prop :=
  ((¬ x3 = (-1 : Int32)) → (w_X12_alone x1 x2 M (fun r2 M3 => w_X12_alone x3 x2 M3 (fun r5 M6 => post (((r2 + r5) + (1 : Int32)) / (2 : Int32)) M6)))) ∧ ((x3 = (-1 : Int32)) → (w_X12_alone x1 x2 M (fun r8 M9 => post r8 M9)))
set_option maxHeartbeats 4000000 in
set_option maxRecDepth 100000 in
theorem c_X12_stepsOf (l : Launch) (D : va_G) (cy : Nat → ClassId) (ad : Nat → Nat) (A : Nat → Prop) (G : Gd A ad nsM)   (x1 : Int32) (x2 : Int32) (x3 : Int32) (M : Mm) (post : Int32 → Mm → Prop) (h : w_X12_stepsOf x1 x2 x3 M post) : CI l yX12_stepsOf wsX12_stepsOf (rmL 3) D (tysC cy) A ad nsM (ceM ad cy) ExM [.ref (ad 0), .int x1, .int x2, .int x3] M post := by
  refine Met_V (cc := cX12_stepsOf) (maxL := 4) (ret := (some .int)) (by decide) rfl G Lo_M ExM_ok (Nat.le_of_ble_eq_true rfl) rfl ?_
  intro p e s m args below meth c C hr hlk
  have C : Cx p s m args c cX12_stepsOf 4 RX12 wsX12_stepsOf D (tysC cy) A ad nsM (ceM ad cy) ExM := C
  unfold w_X12_stepsOf at h
  refine V_iload_n C 3 dX12_stepsOf_0 rfl ?_
  refine V_iconst (v := (-1 : Int32)) C dX12_stepsOf_1 (by decide) ?_
  refine V_icmp_ne C 14 dX12_stepsOf_2 (by decide) (fun q1 => ?_) (fun q1 => ?_)
  · have h := h.1 q1
    refine V_aload_n C 0 dX12_stepsOf_14 rfl ?_
    refine V_iload_n C 1 dX12_stepsOf_15 rfl ?_
    refine V_iload_n C 2 dX12_stepsOf_16 rfl ?_
    refine V_callVi (q := (RX12, TX12, 49)) (rest := []) C (nsM_mem (by decide)) (ceM_0 _) rfl (c_X12_alone l D cy ad A G x1 x2 M _ h) (cwV 2 C.1.2.2.2.2 gX12_stepsOf_X12_alone rfl rfl rfl (by decide +kernel) ⟨by decide, by decide⟩) rfl rfl (Nat.le_of_ble_eq_true rfl) dX12_stepsOf_17 (fun r2 M3 h => ?_)
    refine V_aload_n C 0 dX12_stepsOf_20 rfl ?_
    refine V_iload_n C 3 dX12_stepsOf_21 rfl ?_
    refine V_iload_n C 2 dX12_stepsOf_22 rfl ?_
    refine V_callVi (q := (RX12, TX12, 49)) (rest := [.int r2]) C (nsM_mem (by decide)) (ceM_0 _) rfl (c_X12_alone l D cy ad A G x3 x2 M3 _ h) (cwV 2 C.1.2.2.2.2 gX12_stepsOf_X12_alone rfl rfl rfl (by decide +kernel) ⟨by decide, by decide⟩) rfl rfl (Nat.le_of_ble_eq_true rfl) dX12_stepsOf_23 (fun r5 M6 h => ?_)
    refine V_iadd C dX12_stepsOf_26 ?_
    refine V_iconst (v := (1 : Int32)) C dX12_stepsOf_27 (by decide) ?_
    refine V_iadd C dX12_stepsOf_28 ?_
    refine V_iconst (v := (2 : Int32)) C dX12_stepsOf_29 (by decide) ?_
    refine V_idiv C dX12_stepsOf_30 (by decide) ?_
    exact V_iret C hr hlk dX12_stepsOf_31 h
  · have h := h.2 q1
    refine V_aload_n C 0 dX12_stepsOf_5 rfl ?_
    refine V_iload_n C 1 dX12_stepsOf_6 rfl ?_
    refine V_iload_n C 2 dX12_stepsOf_7 rfl ?_
    refine V_callVi (q := (RX12, TX12, 49)) (rest := []) C (nsM_mem (by decide)) (ceM_0 _) rfl (c_X12_alone l D cy ad A G x1 x2 M _ h) (cwV 2 C.1.2.2.2.2 gX12_stepsOf_X12_alone rfl rfl rfl (by decide +kernel) ⟨by decide, by decide⟩) rfl rfl (Nat.le_of_ble_eq_true rfl) dX12_stepsOf_8 (fun r8 M9 h => ?_)
    refine V_goto C 31 dX12_stepsOf_11 (by decide) ?_
    exact V_iret C hr hlk dX12_stepsOf_31 h
def w_X12_stepsWith (x1 : Int32) (x2 : Int32) (x3 : Int32) (x4 : Int32) (M : Mm) (post : Int32 → Mm → Prop) : Prop :=
  (vp_in x1 5) ∧ (∀ M2 : Mm, M2 = wI M 6 (upd (M.1 6) x1.toNatClampNeg x2) → (w_X12_stepsOf x1 x3 x4 M2 (fun r4 M5 => ∀ M7 : Mm, M7 = wI M5 6 (upd (M5.1 6) x1.toNatClampNeg (M.1 6 x1.toNatClampNeg)) → (post r4 M7))))
theorem iw_X12_stepsWith_X12 : ∀ w ∈ u_ws RX12 TX12 49, w ∈ wsX12_stepsWith := by decide +kernel
theorem m_X12_stepsWith_f25 : Cond.fieldLink RX12 25 "ShameYardsModel" "liesOf" "[I" ∈ wsX12_stepsWith := by decide +kernel
set_option maxHeartbeats 4000000 in
set_option maxRecDepth 100000 in
theorem c_X12_stepsWith (l : Launch) (D : va_G) (cy : Nat → ClassId) (ad : Nat → Nat) (A : Nat → Prop) (G : Gd A ad nsM)   (x1 : Int32) (x2 : Int32) (x3 : Int32) (x4 : Int32) (M : Mm) (post : Int32 → Mm → Prop) (h : w_X12_stepsWith x1 x2 x3 x4 M post) : CI l yX12_stepsWith wsX12_stepsWith (rmL 4) D (tysC cy) A ad nsM (ceM ad cy) ExM [.ref (ad 0), .int x1, .int x2, .int x3, .int x4] M post := by
  refine Met_V (cc := cX12_stepsWith) (maxL := 7) (ret := (some .int)) (by decide) rfl G Lo_M ExM_ok (Nat.le_of_ble_eq_true rfl) rfl ?_
  intro p e s m args below meth c C hr hlk
  have C : Cx p s m args c cX12_stepsWith 7 RX12 wsX12_stepsWith D (tysC cy) A ad nsM (ceM ad cy) ExM := C
  unfold w_X12_stepsWith at h
  refine V_aload_n C 0 dX12_stepsWith_0 rfl ?_
  refine V_get (k0 := 9) (Cn := RX12) (T := TX12) (N := 49) C (nsM_mem (by decide)) rfl iw_X12_stepsWith_X12 (by decide) rfl m_X12_stepsWith_f25 (ceM_0 _) rfl dX12_stepsWith_1 ?_
  refine V_iload_n C 1 dX12_stepsWith_4 rfl ?_
  have g1 := h.1
  have h := h.2
  refine V_iald (t0 := 1) (L := 5) C (nsM_mem (by decide)) (fun _ => rfl) rfl g1 dX12_stepsWith_5 ?_
  refine V_istore (lv' := [(5, .int (M.1 6 x1.toNatClampNeg)), (0, .ref (ad 0)), (1, .int x1), (2, .int x2), (3, .int x3), (4, .int x4)]) C dX12_stepsWith_6 (by decide) rfl ?_
  refine V_aload_n C 1 dX12_stepsWith_8 rfl ?_
  refine V_get (k0 := 9) (Cn := RX12) (T := TX12) (N := 49) C (nsM_mem (by decide)) rfl iw_X12_stepsWith_X12 (by decide) rfl m_X12_stepsWith_f25 (ceM_0 _) rfl dX12_stepsWith_9 ?_
  refine V_iload_n C 2 dX12_stepsWith_12 rfl ?_
  refine V_iload_n C 3 dX12_stepsWith_13 rfl ?_
  refine V_iast (t0 := 1) (L := 5) C (nsM_mem (by decide)) (fun _ => rfl) rfl g1 dX12_stepsWith_14 (fun M2 e3 => ?_)
  have h := h M2 e3
  refine V_aload_n C 1 dX12_stepsWith_15 rfl ?_
  refine V_iload_n C 2 dX12_stepsWith_16 rfl ?_
  refine V_iload_n C 4 dX12_stepsWith_17 rfl ?_
  refine V_iload C 5 dX12_stepsWith_18 rfl ?_
  refine V_callVi (q := (RX12, TX12, 49)) (rest := []) C (nsM_mem (by decide)) (ceM_0 _) rfl (c_X12_stepsOf l D cy ad A G x1 x3 x4 M2 _ h) (cwV 3 C.1.2.2.2.2 gX12_stepsWith_X12_stepsOf rfl rfl rfl (by decide +kernel) ⟨by decide, by decide⟩) rfl rfl (Nat.le_of_ble_eq_true rfl) dX12_stepsWith_20 (fun r4 M5 h => ?_)
  refine V_istore (lv' := [(6, .int r4), (5, .int (M.1 6 x1.toNatClampNeg)), (0, .ref (ad 0)), (1, .int x1), (2, .int x2), (3, .int x3), (4, .int x4)]) C dX12_stepsWith_23 (by decide) rfl ?_
  refine V_aload_n C 2 dX12_stepsWith_25 rfl ?_
  refine V_get (k0 := 9) (Cn := RX12) (T := TX12) (N := 49) C (nsM_mem (by decide)) rfl iw_X12_stepsWith_X12 (by decide) rfl m_X12_stepsWith_f25 (ceM_0 _) rfl dX12_stepsWith_26 ?_
  refine V_iload_n C 3 dX12_stepsWith_29 rfl ?_
  refine V_iload C 1 dX12_stepsWith_30 rfl ?_
  refine V_iast (t0 := 1) (L := 5) C (nsM_mem (by decide)) (fun _ => rfl) rfl g1 dX12_stepsWith_32 (fun M7 e8 => ?_)
  have h := h M7 e8
  refine V_iload C 0 dX12_stepsWith_33 rfl ?_
  exact V_iret C hr hlk dX12_stepsWith_35 h
def w_X12_liesBits_71  (post : Int32 → Mm → Prop) (k4 : Int32 → Int32 → Int32 → Mm → Prop) (k16 : Int32 → Int32 → Int32 → Int32 → Int32 → Mm → Prop) (v1 : Int32) (v2 : Int32) (v3 : Int32) (v5 : Int32) (M : Mm) : Prop :=
    k16 v1 v2 v3 (1 : Int32) (v5 + 1) M
def w_X12_liesBits_16  (post : Int32 → Mm → Prop) (k4 : Int32 → Int32 → Int32 → Mm → Prop) : Nat → Int32 → Int32 → Int32 → Int32 → Int32 → Mm → Prop
  | 0 => fun _ _ _ _ _ _ => False
  | n + 1 => fun v1 v2 v3 v4 v5 M =>
    (((M.1 0 14) ≤ v5) → (((v4 = 0) → (k4 v1 (v2 ||| (0 : Int32)) (v3 + 1) M)) ∧ ((¬ v4 = 0) → (k4 v1 (v2 ||| ((1 : Int32) <<< (v3 &&& 31))) (v3 + 1) M)))) ∧ ((¬ (M.1 0 14) ≤ v5) → (((v4 = 0) → (w_X12_liesBits_16  post k4 n v1 v2 v3 (0 : Int32) (v5 + 1) M)) ∧ ((¬ v4 = 0) → ((vp_in v5 6) ∧ (((¬ (M.1 9 v5.toNatClampNeg) = v1) → (w_X12_liesBits_71  post k4 (w_X12_liesBits_16  post k4 n) v1 v2 v3 v5 M)) ∧ (((M.1 9 v5.toNatClampNeg) = v1) → (w_X12_stepsWith v1 v3 (M.1 10 v5.toNatClampNeg) (M.1 11 v5.toNatClampNeg) M (fun r6 M7 => ((¬ r6 = (M7.1 12 v5.toNatClampNeg)) → (w_X12_liesBits_16  post k4 n v1 v2 v3 (0 : Int32) (v5 + 1) M7)) ∧ ((r6 = (M7.1 12 v5.toNatClampNeg)) → (w_X12_liesBits_71  post k4 (w_X12_liesBits_16  post k4 n) v1 v2 v3 v5 M7))))))))))
def w_X12_liesBits_4  (post : Int32 → Mm → Prop)  : Nat → Int32 → Int32 → Int32 → Mm → Prop
  | 0 => fun _ _ _ _ => False
  | n + 1 => fun v1 v2 v3 M =>
    (((9 : Int32) < v3) → (post v2 M)) ∧ ((¬ (9 : Int32) < v3) → (∃ n0 : Nat, w_X12_liesBits_16  post (w_X12_liesBits_4  post  n) n0 v1 v2 v3 (1 : Int32) (0 : Int32) M))
def w_X12_liesBits (x1 : Int32) (M : Mm) (post : Int32 → Mm → Prop) : Prop :=
  ∃ n0 : Nat, w_X12_liesBits_4  post  n0 x1 (0 : Int32) (0 : Int32) M
theorem iw_X12_liesBits_X12 : ∀ w ∈ u_ws RX12 TX12 49, w ∈ wsX12_liesBits := by decide +kernel
theorem m_X12_liesBits_f165 : Cond.fieldLink RX12 165 "ShameYardsModel" "seen" "I" ∈ wsX12_liesBits := by decide +kernel
theorem m_X12_liesBits_f34 : Cond.fieldLink RX12 34 "ShameYardsModel" "seenPerson" "[I" ∈ wsX12_liesBits := by decide +kernel
theorem m_X12_liesBits_f37 : Cond.fieldLink RX12 37 "ShameYardsModel" "seenPassage" "[I" ∈ wsX12_liesBits := by decide +kernel
theorem m_X12_liesBits_f40 : Cond.fieldLink RX12 40 "ShameYardsModel" "seenWith" "[I" ∈ wsX12_liesBits := by decide +kernel
theorem m_X12_liesBits_f43 : Cond.fieldLink RX12 43 "ShameYardsModel" "seenSteps" "[I" ∈ wsX12_liesBits := by decide +kernel
set_option maxHeartbeats 4000000 in
set_option maxRecDepth 100000 in
theorem c_X12_liesBits (l : Launch) (D : va_G) (cy : Nat → ClassId) (ad : Nat → Nat) (A : Nat → Prop) (G : Gd A ad nsM)   (x1 : Int32) (M : Mm) (post : Int32 → Mm → Prop) (h : w_X12_liesBits x1 M post) : CI l yX12_liesBits wsX12_liesBits (rmL 5) D (tysC cy) A ad nsM (ceM ad cy) ExM [.ref (ad 0), .int x1] M post := by
  refine Met_V (cc := cX12_liesBits) (maxL := 6) (ret := (some .int)) (by decide) rfl G Lo_M ExM_ok (Nat.le_of_ble_eq_true rfl) rfl ?_
  intro p e s m args below meth c C hr hlk
  have C : Cx p s m args c cX12_liesBits 6 RX12 wsX12_liesBits D (tysC cy) A ad nsM (ceM ad cy) ExM := C
  have L71 : ∀ (k4 : Int32 → Int32 → Int32 → Mm → Prop) (hk4 : ∀ (v1 : Int32) (v2 : Int32) (v3 : Int32) (M : Mm), k4 v1 v2 v3 M → V p l e (rmL 5) s m args below meth c (MQ below (va_Qi post (Wd D (tysC cy) ad nsM (ceM ad cy) ExM) A) args s 0 0 A) D A ad nsM (ceM ad cy) 6 M [(0, .ref (ad 0)), (1, .int v1), (2, .int v2), (3, .int v3)] 4 []) (k16 : Int32 → Int32 → Int32 → Int32 → Int32 → Mm → Prop) (hk16 : ∀ (v1 : Int32) (v2 : Int32) (v3 : Int32) (v4 : Int32) (v5 : Int32) (M : Mm), k16 v1 v2 v3 v4 v5 M → V p l e (rmL 5) s m args below meth c (MQ below (va_Qi post (Wd D (tysC cy) ad nsM (ceM ad cy) ExM) A) args s 0 0 A) D A ad nsM (ceM ad cy) 6 M [(0, .ref (ad 0)), (1, .int v1), (2, .int v2), (3, .int v3), (4, .int v4), (5, .int v5)] 16 []) (v1 : Int32) (v2 : Int32) (v3 : Int32) (v5 : Int32) (M : Mm), w_X12_liesBits_71  post k4 k16 v1 v2 v3 v5 M → V p l e (rmL 5) s m args below meth c (MQ below (va_Qi post (Wd D (tysC cy) ad nsM (ceM ad cy) ExM) A) args s 0 0 A) D A ad nsM (ceM ad cy) 6 M [(0, .ref (ad 0)), (1, .int v1), (2, .int v2), (3, .int v3), (5, .int v5)] 71 [] := by
    intro k4 hk4 k16 hk16 v1 v2 v3 v5 M h 
    unfold w_X12_liesBits_71 at h
    refine V_iconst (v := (1 : Int32)) C dX12_liesBits_71 (by decide) ?_
    refine V_goto C 76 dX12_liesBits_72 (by decide) ?_
    refine V_istore (lv' := [(4, .int (1 : Int32)), (0, .ref (ad 0)), (1, .int v1), (2, .int v2), (3, .int v3), (5, .int v5)]) C dX12_liesBits_76 (by decide) rfl ?_
    refine V_iinc (v := (v5 + 1)) (lv' := [(5, .int (v5 + 1)), (4, .int (1 : Int32)), (0, .ref (ad 0)), (1, .int v1), (2, .int v2), (3, .int v3)]) C 5 dX12_liesBits_78 rfl rfl (by decide) rfl ?_
    refine V_goto C 16 dX12_liesBits_81 (by decide) ?_
    refine V_drop (lv' := [(0, .ref (ad 0)), (1, .int v1), (2, .int v2), (3, .int v3), (4, .int (1 : Int32)), (5, .int (v5 + 1))]) [2, 3, 4, 5, 1, 0] rfl ?_
    exact hk16 v1 v2 v3 (1 : Int32) (v5 + 1) M h 
  have L16 : ∀ (k4 : Int32 → Int32 → Int32 → Mm → Prop) (hk4 : ∀ (v1 : Int32) (v2 : Int32) (v3 : Int32) (M : Mm), k4 v1 v2 v3 M → V p l e (rmL 5) s m args below meth c (MQ below (va_Qi post (Wd D (tysC cy) ad nsM (ceM ad cy) ExM) A) args s 0 0 A) D A ad nsM (ceM ad cy) 6 M [(0, .ref (ad 0)), (1, .int v1), (2, .int v2), (3, .int v3)] 4 []) (n : Nat) (v1 : Int32) (v2 : Int32) (v3 : Int32) (v4 : Int32) (v5 : Int32) (M : Mm), w_X12_liesBits_16  post k4 n v1 v2 v3 v4 v5 M → V p l e (rmL 5) s m args below meth c (MQ below (va_Qi post (Wd D (tysC cy) ad nsM (ceM ad cy) ExM) A) args s 0 0 A) D A ad nsM (ceM ad cy) 6 M [(0, .ref (ad 0)), (1, .int v1), (2, .int v2), (3, .int v3), (4, .int v4), (5, .int v5)] 16 [] := by
    intro k4 hk4 n
    induction n with
    | zero => intro v1 v2 v3 v4 v5 M h; exact h.elim
    | succ n ih =>
    intro v1 v2 v3 v4 v5 M h 
    unfold w_X12_liesBits_16 at h
    refine V_iload C 5 dX12_liesBits_16 rfl ?_
    refine V_aload_n C 0 dX12_liesBits_18 rfl ?_
    refine V_get (k0 := 14) (Cn := RX12) (T := TX12) (N := 49) C (nsM_mem (by decide)) rfl iw_X12_liesBits_X12 (by decide) rfl m_X12_liesBits_f165 (ceM_0 _) rfl dX12_liesBits_19 ?_
    refine V_icmp_ge C 84 dX12_liesBits_22 (by decide) (fun q1 => ?_) (fun q1 => ?_)
    · have h := h.1 q1
      refine V_iload_n C 2 dX12_liesBits_84 rfl ?_
      refine V_iload C 4 dX12_liesBits_85 rfl ?_
      refine V_if_eq C 96 dX12_liesBits_87 (by decide) (fun q2 => ?_) (fun q2 => ?_)
      · have h := h.1 q2
        refine V_iconst (v := (0 : Int32)) C dX12_liesBits_96 (by decide) ?_
        refine V_ior C dX12_liesBits_97 ?_
        refine V_istore_n (lv' := [(2, .int (v2 ||| (0 : Int32))), (0, .ref (ad 0)), (1, .int v1), (3, .int v3), (4, .int v4), (5, .int v5)]) C dX12_liesBits_98 rfl (by decide) rfl ?_
        refine V_iinc (v := (v3 + 1)) (lv' := [(3, .int (v3 + 1)), (2, .int (v2 ||| (0 : Int32))), (0, .ref (ad 0)), (1, .int v1), (4, .int v4), (5, .int v5)]) C 3 dX12_liesBits_99 rfl rfl (by decide) rfl ?_
        refine V_goto C 4 dX12_liesBits_102 (by decide) ?_
        refine V_drop (lv' := [(0, .ref (ad 0)), (1, .int v1), (2, .int (v2 ||| (0 : Int32))), (3, .int (v3 + 1))]) [2, 3, 1, 0] rfl ?_
        exact hk4 v1 (v2 ||| (0 : Int32)) (v3 + 1) M h 
      · have h := h.2 q2
        refine V_iconst (v := (1 : Int32)) C dX12_liesBits_90 (by decide) ?_
        refine V_iload_n C 3 dX12_liesBits_91 rfl ?_
        refine V_ishl C dX12_liesBits_92 ?_
        refine V_goto C 97 dX12_liesBits_93 (by decide) ?_
        refine V_ior C dX12_liesBits_97 ?_
        refine V_istore_n (lv' := [(2, .int (v2 ||| ((1 : Int32) <<< (v3 &&& 31)))), (0, .ref (ad 0)), (1, .int v1), (3, .int v3), (4, .int v4), (5, .int v5)]) C dX12_liesBits_98 rfl (by decide) rfl ?_
        refine V_iinc (v := (v3 + 1)) (lv' := [(3, .int (v3 + 1)), (2, .int (v2 ||| ((1 : Int32) <<< (v3 &&& 31)))), (0, .ref (ad 0)), (1, .int v1), (4, .int v4), (5, .int v5)]) C 3 dX12_liesBits_99 rfl rfl (by decide) rfl ?_
        refine V_goto C 4 dX12_liesBits_102 (by decide) ?_
        refine V_drop (lv' := [(0, .ref (ad 0)), (1, .int v1), (2, .int (v2 ||| ((1 : Int32) <<< (v3 &&& 31)))), (3, .int (v3 + 1))]) [2, 3, 1, 0] rfl ?_
        exact hk4 v1 (v2 ||| ((1 : Int32) <<< (v3 &&& 31))) (v3 + 1) M h 
    · have h := h.2 q1
      refine V_iload C 4 dX12_liesBits_25 rfl ?_
      refine V_if_eq C 75 dX12_liesBits_27 (by decide) (fun q3 => ?_) (fun q3 => ?_)
      · have h := h.1 q3
        refine V_iconst (v := (0 : Int32)) C dX12_liesBits_75 (by decide) ?_
        refine V_istore (lv' := [(4, .int (0 : Int32)), (0, .ref (ad 0)), (1, .int v1), (2, .int v2), (3, .int v3), (5, .int v5)]) C dX12_liesBits_76 (by decide) rfl ?_
        refine V_iinc (v := (v5 + 1)) (lv' := [(5, .int (v5 + 1)), (4, .int (0 : Int32)), (0, .ref (ad 0)), (1, .int v1), (2, .int v2), (3, .int v3)]) C 5 dX12_liesBits_78 rfl rfl (by decide) rfl ?_
        refine V_goto C 16 dX12_liesBits_81 (by decide) ?_
        refine V_drop (lv' := [(0, .ref (ad 0)), (1, .int v1), (2, .int v2), (3, .int v3), (4, .int (0 : Int32)), (5, .int (v5 + 1))]) [2, 3, 4, 5, 1, 0] rfl ?_
        exact ih v1 v2 v3 (0 : Int32) (v5 + 1) M h 
      · have h := h.2 q3
        refine V_aload_n C 0 dX12_liesBits_30 rfl ?_
        refine V_get (k0 := 15) (Cn := RX12) (T := TX12) (N := 49) C (nsM_mem (by decide)) rfl iw_X12_liesBits_X12 (by decide) rfl m_X12_liesBits_f34 (ceM_0 _) rfl dX12_liesBits_31 ?_
        refine V_iload C 5 dX12_liesBits_34 rfl ?_
        have g4 := h.1
        have h := h.2
        refine V_iald (t0 := 1) (L := 6) C (nsM_mem (by decide)) (fun _ => rfl) rfl g4 dX12_liesBits_36 ?_
        refine V_iload_n C 1 dX12_liesBits_37 rfl ?_
        refine V_icmp_ne C 71 dX12_liesBits_38 (by decide) (fun q5 => ?_) (fun q5 => ?_)
        · have h := h.1 q5
          refine V_drop (lv' := [(0, .ref (ad 0)), (1, .int v1), (2, .int v2), (3, .int v3), (5, .int v5)]) [0, 1, 2, 3, 5] rfl ?_
          exact L71 k4 hk4 (w_X12_liesBits_16  post k4 n) ih v1 v2 v3 v5 M h 
        · have h := h.2 q5
          refine V_aload_n C 0 dX12_liesBits_41 rfl ?_
          refine V_iload_n C 1 dX12_liesBits_42 rfl ?_
          refine V_iload_n C 3 dX12_liesBits_43 rfl ?_
          refine V_aload_n C 0 dX12_liesBits_44 rfl ?_
          refine V_get (k0 := 16) (Cn := RX12) (T := TX12) (N := 49) C (nsM_mem (by decide)) rfl iw_X12_liesBits_X12 (by decide) rfl m_X12_liesBits_f37 (ceM_0 _) rfl dX12_liesBits_45 ?_
          refine V_iload C 5 dX12_liesBits_48 rfl ?_
          refine V_iald (t0 := 1) (L := 6) C (nsM_mem (by decide)) (fun _ => rfl) rfl g4 dX12_liesBits_50 ?_
          refine V_aload_n C 0 dX12_liesBits_51 rfl ?_
          refine V_get (k0 := 17) (Cn := RX12) (T := TX12) (N := 49) C (nsM_mem (by decide)) rfl iw_X12_liesBits_X12 (by decide) rfl m_X12_liesBits_f40 (ceM_0 _) rfl dX12_liesBits_52 ?_
          refine V_iload C 5 dX12_liesBits_55 rfl ?_
          refine V_iald (t0 := 1) (L := 6) C (nsM_mem (by decide)) (fun _ => rfl) rfl g4 dX12_liesBits_57 ?_
          refine V_callVi (q := (RX12, TX12, 49)) (rest := []) C (nsM_mem (by decide)) (ceM_0 _) rfl (c_X12_stepsWith l D cy ad A G v1 v3 (M.1 10 v5.toNatClampNeg) (M.1 11 v5.toNatClampNeg) M _ h) (cwV 4 C.1.2.2.2.2 gX12_liesBits_X12_stepsWith rfl rfl rfl (by decide +kernel) ⟨by decide, by decide⟩) rfl rfl (Nat.le_of_ble_eq_true rfl) dX12_liesBits_58 (fun r6 M7 h => ?_)
          refine V_aload_n C 0 dX12_liesBits_61 rfl ?_
          refine V_get (k0 := 18) (Cn := RX12) (T := TX12) (N := 49) C (nsM_mem (by decide)) rfl iw_X12_liesBits_X12 (by decide) rfl m_X12_liesBits_f43 (ceM_0 _) rfl dX12_liesBits_62 ?_
          refine V_iload C 5 dX12_liesBits_65 rfl ?_
          refine V_iald (t0 := 1) (L := 6) C (nsM_mem (by decide)) (fun _ => rfl) rfl g4 dX12_liesBits_67 ?_
          refine V_icmp_ne C 75 dX12_liesBits_68 (by decide) (fun q9 => ?_) (fun q9 => ?_)
          · have h := h.1 q9
            refine V_iconst (v := (0 : Int32)) C dX12_liesBits_75 (by decide) ?_
            refine V_istore (lv' := [(4, .int (0 : Int32)), (0, .ref (ad 0)), (1, .int v1), (2, .int v2), (3, .int v3), (5, .int v5)]) C dX12_liesBits_76 (by decide) rfl ?_
            refine V_iinc (v := (v5 + 1)) (lv' := [(5, .int (v5 + 1)), (4, .int (0 : Int32)), (0, .ref (ad 0)), (1, .int v1), (2, .int v2), (3, .int v3)]) C 5 dX12_liesBits_78 rfl rfl (by decide) rfl ?_
            refine V_goto C 16 dX12_liesBits_81 (by decide) ?_
            refine V_drop (lv' := [(0, .ref (ad 0)), (1, .int v1), (2, .int v2), (3, .int v3), (4, .int (0 : Int32)), (5, .int (v5 + 1))]) [2, 3, 4, 5, 1, 0] rfl ?_
            exact ih v1 v2 v3 (0 : Int32) (v5 + 1) M7 h 
          · have h := h.2 q9
            refine V_drop (lv' := [(0, .ref (ad 0)), (1, .int v1), (2, .int v2), (3, .int v3), (5, .int v5)]) [0, 1, 2, 3, 5] rfl ?_
            exact L71 k4 hk4 (w_X12_liesBits_16  post k4 n) ih v1 v2 v3 v5 M7 h 
  have L4 : ∀  (n : Nat) (v1 : Int32) (v2 : Int32) (v3 : Int32) (M : Mm), w_X12_liesBits_4  post  n v1 v2 v3 M → V p l e (rmL 5) s m args below meth c (MQ below (va_Qi post (Wd D (tysC cy) ad nsM (ceM ad cy) ExM) A) args s 0 0 A) D A ad nsM (ceM ad cy) 6 M [(0, .ref (ad 0)), (1, .int v1), (2, .int v2), (3, .int v3)] 4 [] := by
    intro  n
    induction n with
    | zero => intro v1 v2 v3 M h; exact h.elim
    | succ n ih =>
    intro v1 v2 v3 M h 
    unfold w_X12_liesBits_4 at h
    refine V_iload_n C 3 dX12_liesBits_4 rfl ?_
    refine V_bipush (v := (9 : Int32)) C dX12_liesBits_5 (by decide) ?_
    refine V_icmp_gt C 105 dX12_liesBits_7 (by decide) (fun q10 => ?_) (fun q10 => ?_)
    · have h := h.1 q10
      refine V_iload_n C 2 dX12_liesBits_105 rfl ?_
      exact V_iret C hr hlk dX12_liesBits_106 h
    · have h := h.2 q10
      refine V_iconst (v := (1 : Int32)) C dX12_liesBits_10 (by decide) ?_
      refine V_istore (lv' := [(4, .int (1 : Int32)), (0, .ref (ad 0)), (1, .int v1), (2, .int v2), (3, .int v3)]) C dX12_liesBits_11 (by decide) rfl ?_
      refine V_iconst (v := (0 : Int32)) C dX12_liesBits_13 (by decide) ?_
      refine V_istore (lv' := [(5, .int (0 : Int32)), (4, .int (1 : Int32)), (0, .ref (ad 0)), (1, .int v1), (2, .int v2), (3, .int v3)]) C dX12_liesBits_14 (by decide) rfl ?_
      refine V_drop (lv' := [(0, .ref (ad 0)), (1, .int v1), (2, .int v2), (3, .int v3), (4, .int (1 : Int32)), (5, .int (0 : Int32))]) [2, 3, 4, 5, 1, 0] rfl ?_
      obtain ⟨n0, h⟩ := h
      exact L16 (w_X12_liesBits_4  post  n) ih n0 v1 v2 v3 (1 : Int32) (0 : Int32) M h 
  unfold w_X12_liesBits at h
  refine V_iconst (v := (0 : Int32)) C dX12_liesBits_0 (by decide) ?_
  refine V_istore_n (lv' := [(2, .int (0 : Int32)), (0, .ref (ad 0)), (1, .int x1)]) C dX12_liesBits_1 rfl (by decide) rfl ?_
  refine V_iconst (v := (0 : Int32)) C dX12_liesBits_2 (by decide) ?_
  refine V_istore_n (lv' := [(3, .int (0 : Int32)), (2, .int (0 : Int32)), (0, .ref (ad 0)), (1, .int x1)]) C dX12_liesBits_3 rfl (by decide) rfl ?_
  refine V_drop (lv' := [(0, .ref (ad 0)), (1, .int x1), (2, .int (0 : Int32)), (3, .int (0 : Int32))]) [2, 3, 1, 0] rfl ?_
  obtain ⟨n0, h⟩ := h
  exact L4  n0 x1 (0 : Int32) (0 : Int32) M h 
def w_X12_worstBy_73  (post : Int32 → Mm → Prop) (k6 : Int32 → Int32 → Int32 → Int32 → Int32 → Int32 → Mm → Prop) (k19 : Int32 → Int32 → Int32 → Int32 → Int32 → Int32 → Int32 → Int32 → Mm → Prop) (v1 : Int32) (v2 : Int32) (v3 : Int32) (v4 : Int32) (v5 : Int32) (v6 : Int32) (v8 : Int32) (s0 : Int32) (M : Mm) : Prop :=
    k19 v1 v2 v3 v4 v5 v6 (s0 + (0 : Int32)) (v8 + 1) M
def w_X12_worstBy_19  (post : Int32 → Mm → Prop) (k6 : Int32 → Int32 → Int32 → Int32 → Int32 → Int32 → Mm → Prop) : Nat → Int32 → Int32 → Int32 → Int32 → Int32 → Int32 → Int32 → Int32 → Mm → Prop
  | 0 => fun _ _ _ _ _ _ _ _ _ => False
  | n + 1 => fun v1 v2 v3 v4 v5 v6 v7 v8 M =>
    (((9 : Int32) < v8) → (((v7 ≤ v5) → (k6 v1 v2 v3 v4 v5 (v6 + 1) M)) ∧ ((¬ v7 ≤ v5) → (k6 v1 v2 v3 v4 v7 (v6 + 1) M)))) ∧ ((¬ (9 : Int32) < v8) → (w_X12_isIn v2 v6 M (fun r3 M4 => ((r3 = 0) → (w_X12_worstBy_73  post k6 (w_X12_worstBy_19  post k6 n) v1 v2 v3 v4 v5 v6 v8 v7 M4)) ∧ ((¬ r3 = 0) → (w_X12_isIn v2 v8 M4 (fun r7 M8 => ((r7 = 0) → (w_X12_worstBy_73  post k6 (w_X12_worstBy_19  post k6 n) v1 v2 v3 v4 v5 v6 v8 v7 M8)) ∧ ((¬ r7 = 0) → (w_X12_stepsWith v1 v6 v3 v4 M8 (fun r11 M12 => w_X12_stepsWith v1 v8 v3 v4 M12 (fun r14 M15 => ((¬ r11 = r14) → (w_X12_worstBy_73  post k6 (w_X12_worstBy_19  post k6 n) v1 v2 v3 v4 v5 v6 v8 v7 M15)) ∧ ((r11 = r14) → (w_X12_worstBy_19  post k6 n v1 v2 v3 v4 v5 v6 (v7 + (1 : Int32)) (v8 + 1) M15))))))))))))
def w_X12_worstBy_6  (post : Int32 → Mm → Prop)  : Nat → Int32 → Int32 → Int32 → Int32 → Int32 → Int32 → Mm → Prop
  | 0 => fun _ _ _ _ _ _ _ => False
  | n + 1 => fun v1 v2 v3 v4 v5 v6 M =>
    (((9 : Int32) < v6) → (post v5 M)) ∧ ((¬ (9 : Int32) < v6) → (∃ n0 : Nat, w_X12_worstBy_19  post (w_X12_worstBy_6  post  n) n0 v1 v2 v3 v4 v5 v6 (0 : Int32) (0 : Int32) M))
def w_X12_worstBy (x1 : Int32) (x2 : Int32) (x3 : Int32) (x4 : Int32) (M : Mm) (post : Int32 → Mm → Prop) : Prop :=
  ∃ n0 : Nat, w_X12_worstBy_6  post  n0 x1 x2 x3 x4 (0 : Int32) (0 : Int32) M
set_option maxHeartbeats 4000000 in
set_option maxRecDepth 100000 in
theorem c_X12_worstBy (l : Launch) (D : va_G) (cy : Nat → ClassId) (ad : Nat → Nat) (A : Nat → Prop) (G : Gd A ad nsM)   (x1 : Int32) (x2 : Int32) (x3 : Int32) (x4 : Int32) (M : Mm) (post : Int32 → Mm → Prop) (h : w_X12_worstBy x1 x2 x3 x4 M post) : CI l yX12_worstBy wsX12_worstBy (rmL 5) D (tysC cy) A ad nsM (ceM ad cy) ExM [.ref (ad 0), .int x1, .int x2, .int x3, .int x4] M post := by
  refine Met_V (cc := cX12_worstBy) (maxL := 9) (ret := (some .int)) (by decide) rfl G Lo_M ExM_ok (Nat.le_of_ble_eq_true rfl) rfl ?_
  intro p e s m args below meth c C hr hlk
  have C : Cx p s m args c cX12_worstBy 9 RX12 wsX12_worstBy D (tysC cy) A ad nsM (ceM ad cy) ExM := C
  have L73 : ∀ (k6 : Int32 → Int32 → Int32 → Int32 → Int32 → Int32 → Mm → Prop) (hk6 : ∀ (v1 : Int32) (v2 : Int32) (v3 : Int32) (v4 : Int32) (v5 : Int32) (v6 : Int32) (M : Mm), k6 v1 v2 v3 v4 v5 v6 M → V p l e (rmL 5) s m args below meth c (MQ below (va_Qi post (Wd D (tysC cy) ad nsM (ceM ad cy) ExM) A) args s 0 0 A) D A ad nsM (ceM ad cy) 9 M [(0, .ref (ad 0)), (1, .int v1), (2, .int v2), (3, .int v3), (4, .int v4), (5, .int v5), (6, .int v6)] 6 []) (k19 : Int32 → Int32 → Int32 → Int32 → Int32 → Int32 → Int32 → Int32 → Mm → Prop) (hk19 : ∀ (v1 : Int32) (v2 : Int32) (v3 : Int32) (v4 : Int32) (v5 : Int32) (v6 : Int32) (v7 : Int32) (v8 : Int32) (M : Mm), k19 v1 v2 v3 v4 v5 v6 v7 v8 M → V p l e (rmL 5) s m args below meth c (MQ below (va_Qi post (Wd D (tysC cy) ad nsM (ceM ad cy) ExM) A) args s 0 0 A) D A ad nsM (ceM ad cy) 9 M [(0, .ref (ad 0)), (1, .int v1), (2, .int v2), (3, .int v3), (4, .int v4), (5, .int v5), (6, .int v6), (7, .int v7), (8, .int v8)] 19 []) (v1 : Int32) (v2 : Int32) (v3 : Int32) (v4 : Int32) (v5 : Int32) (v6 : Int32) (v8 : Int32) (s0 : Int32) (M : Mm), w_X12_worstBy_73  post k6 k19 v1 v2 v3 v4 v5 v6 v8 s0 M → V p l e (rmL 5) s m args below meth c (MQ below (va_Qi post (Wd D (tysC cy) ad nsM (ceM ad cy) ExM) A) args s 0 0 A) D A ad nsM (ceM ad cy) 9 M [(0, .ref (ad 0)), (1, .int v1), (2, .int v2), (3, .int v3), (4, .int v4), (5, .int v5), (6, .int v6), (8, .int v8)] 73 [.int s0] := by
    intro k6 hk6 k19 hk19 v1 v2 v3 v4 v5 v6 v8 s0 M h 
    unfold w_X12_worstBy_73 at h
    refine V_iconst (v := (0 : Int32)) C dX12_worstBy_73 (by decide) ?_
    refine V_iadd C dX12_worstBy_74 ?_
    refine V_istore (lv' := [(7, .int (s0 + (0 : Int32))), (0, .ref (ad 0)), (1, .int v1), (2, .int v2), (3, .int v3), (4, .int v4), (5, .int v5), (6, .int v6), (8, .int v8)]) C dX12_worstBy_75 (by decide) rfl ?_
    refine V_iinc (v := (v8 + 1)) (lv' := [(8, .int (v8 + 1)), (7, .int (s0 + (0 : Int32))), (0, .ref (ad 0)), (1, .int v1), (2, .int v2), (3, .int v3), (4, .int v4), (5, .int v5), (6, .int v6)]) C 8 dX12_worstBy_77 rfl rfl (by decide) rfl ?_
    refine V_goto C 19 dX12_worstBy_80 (by decide) ?_
    refine V_drop (lv' := [(0, .ref (ad 0)), (1, .int v1), (2, .int v2), (3, .int v3), (4, .int v4), (5, .int v5), (6, .int v6), (7, .int (s0 + (0 : Int32))), (8, .int (v8 + 1))]) [2, 3, 4, 5, 6, 7, 8, 1, 0] rfl ?_
    exact hk19 v1 v2 v3 v4 v5 v6 (s0 + (0 : Int32)) (v8 + 1) M h 
  have L19 : ∀ (k6 : Int32 → Int32 → Int32 → Int32 → Int32 → Int32 → Mm → Prop) (hk6 : ∀ (v1 : Int32) (v2 : Int32) (v3 : Int32) (v4 : Int32) (v5 : Int32) (v6 : Int32) (M : Mm), k6 v1 v2 v3 v4 v5 v6 M → V p l e (rmL 5) s m args below meth c (MQ below (va_Qi post (Wd D (tysC cy) ad nsM (ceM ad cy) ExM) A) args s 0 0 A) D A ad nsM (ceM ad cy) 9 M [(0, .ref (ad 0)), (1, .int v1), (2, .int v2), (3, .int v3), (4, .int v4), (5, .int v5), (6, .int v6)] 6 []) (n : Nat) (v1 : Int32) (v2 : Int32) (v3 : Int32) (v4 : Int32) (v5 : Int32) (v6 : Int32) (v7 : Int32) (v8 : Int32) (M : Mm), w_X12_worstBy_19  post k6 n v1 v2 v3 v4 v5 v6 v7 v8 M → V p l e (rmL 5) s m args below meth c (MQ below (va_Qi post (Wd D (tysC cy) ad nsM (ceM ad cy) ExM) A) args s 0 0 A) D A ad nsM (ceM ad cy) 9 M [(0, .ref (ad 0)), (1, .int v1), (2, .int v2), (3, .int v3), (4, .int v4), (5, .int v5), (6, .int v6), (7, .int v7), (8, .int v8)] 19 [] := by
    intro k6 hk6 n
    induction n with
    | zero => intro v1 v2 v3 v4 v5 v6 v7 v8 M h; exact h.elim
    | succ n ih =>
    intro v1 v2 v3 v4 v5 v6 v7 v8 M h 
    unfold w_X12_worstBy_19 at h
    refine V_iload C 8 dX12_worstBy_19 rfl ?_
    refine V_bipush (v := (9 : Int32)) C dX12_worstBy_21 (by decide) ?_
    refine V_icmp_gt C 83 dX12_worstBy_23 (by decide) (fun q1 => ?_) (fun q1 => ?_)
    · have h := h.1 q1
      refine V_iload C 7 dX12_worstBy_83 rfl ?_
      refine V_iload C 5 dX12_worstBy_85 rfl ?_
      refine V_icmp_le C 95 dX12_worstBy_87 (by decide) (fun q2 => ?_) (fun q2 => ?_)
      · have h := h.1 q2
        refine V_iload C 5 dX12_worstBy_95 rfl ?_
        refine V_istore (lv' := [(5, .int v5), (0, .ref (ad 0)), (1, .int v1), (2, .int v2), (3, .int v3), (4, .int v4), (6, .int v6), (7, .int v7), (8, .int v8)]) C dX12_worstBy_97 (by decide) rfl ?_
        refine V_iinc (v := (v6 + 1)) (lv' := [(6, .int (v6 + 1)), (5, .int v5), (0, .ref (ad 0)), (1, .int v1), (2, .int v2), (3, .int v3), (4, .int v4), (7, .int v7), (8, .int v8)]) C 6 dX12_worstBy_99 rfl rfl (by decide) rfl ?_
        refine V_goto C 6 dX12_worstBy_102 (by decide) ?_
        refine V_drop (lv' := [(0, .ref (ad 0)), (1, .int v1), (2, .int v2), (3, .int v3), (4, .int v4), (5, .int v5), (6, .int (v6 + 1))]) [2, 3, 4, 5, 6, 1, 0] rfl ?_
        exact hk6 v1 v2 v3 v4 v5 (v6 + 1) M h 
      · have h := h.2 q2
        refine V_iload C 7 dX12_worstBy_90 rfl ?_
        refine V_goto C 97 dX12_worstBy_92 (by decide) ?_
        refine V_istore (lv' := [(5, .int v7), (0, .ref (ad 0)), (1, .int v1), (2, .int v2), (3, .int v3), (4, .int v4), (6, .int v6), (7, .int v7), (8, .int v8)]) C dX12_worstBy_97 (by decide) rfl ?_
        refine V_iinc (v := (v6 + 1)) (lv' := [(6, .int (v6 + 1)), (5, .int v7), (0, .ref (ad 0)), (1, .int v1), (2, .int v2), (3, .int v3), (4, .int v4), (7, .int v7), (8, .int v8)]) C 6 dX12_worstBy_99 rfl rfl (by decide) rfl ?_
        refine V_goto C 6 dX12_worstBy_102 (by decide) ?_
        refine V_drop (lv' := [(0, .ref (ad 0)), (1, .int v1), (2, .int v2), (3, .int v3), (4, .int v4), (5, .int v7), (6, .int (v6 + 1))]) [2, 3, 4, 5, 6, 1, 0] rfl ?_
        exact hk6 v1 v2 v3 v4 v7 (v6 + 1) M h 
    · have h := h.2 q1
      refine V_iload C 7 dX12_worstBy_26 rfl ?_
      refine V_iload_n C 2 dX12_worstBy_28 rfl ?_
      refine V_iload C 6 dX12_worstBy_29 rfl ?_
      refine V_callSi (rest := [.int v7]) C (c_X12_isIn l D cy ad A G v2 v6 M _ h) (va_cwS 2 C.1.2.2.2.2 gX12_worstBy_X12_isIn rfl rfl rfl (by decide +kernel) ⟨by decide, by decide⟩) rfl rfl (Nat.le_of_ble_eq_true rfl) dX12_worstBy_31 (fun r3 M4 h => ?_)
      obtain ⟨z5, h⟩ := h
      refine V_if_eq C 73 dX12_worstBy_34 (by decide) (fun q6 => ?_) (fun q6 => ?_)
      · have h := h.1 q6
        refine V_drop (lv' := [(0, .ref (ad 0)), (1, .int v1), (2, .int v2), (3, .int v3), (4, .int v4), (5, .int v5), (6, .int v6), (8, .int v8)]) [0, 1, 2, 3, 4, 5, 6, 8] rfl ?_
        exact L73 k6 hk6 (w_X12_worstBy_19  post k6 n) ih v1 v2 v3 v4 v5 v6 v8 v7 M4 h 
      · have h := h.2 q6
        refine V_iload_n C 2 dX12_worstBy_37 rfl ?_
        refine V_iload C 8 dX12_worstBy_38 rfl ?_
        refine V_callSi (rest := [.int v7]) C (c_X12_isIn l D cy ad A G v2 v8 M4 _ h) (va_cwS 2 C.1.2.2.2.2 gX12_worstBy_X12_isIn rfl rfl rfl (by decide +kernel) ⟨by decide, by decide⟩) rfl rfl (Nat.le_of_ble_eq_true rfl) dX12_worstBy_40 (fun r7 M8 h => ?_)
        obtain ⟨z9, h⟩ := h
        refine V_if_eq C 73 dX12_worstBy_43 (by decide) (fun q10 => ?_) (fun q10 => ?_)
        · have h := h.1 q10
          refine V_drop (lv' := [(0, .ref (ad 0)), (1, .int v1), (2, .int v2), (3, .int v3), (4, .int v4), (5, .int v5), (6, .int v6), (8, .int v8)]) [0, 1, 2, 3, 4, 5, 6, 8] rfl ?_
          exact L73 k6 hk6 (w_X12_worstBy_19  post k6 n) ih v1 v2 v3 v4 v5 v6 v8 v7 M8 h 
        · have h := h.2 q10
          refine V_aload_n C 0 dX12_worstBy_46 rfl ?_
          refine V_iload_n C 1 dX12_worstBy_47 rfl ?_
          refine V_iload C 6 dX12_worstBy_48 rfl ?_
          refine V_iload_n C 3 dX12_worstBy_50 rfl ?_
          refine V_iload C 4 dX12_worstBy_51 rfl ?_
          refine V_callVi (q := (RX12, TX12, 49)) (rest := [.int v7]) C (nsM_mem (by decide)) (ceM_0 _) rfl (c_X12_stepsWith l D cy ad A G v1 v6 v3 v4 M8 _ h) (cwV 4 C.1.2.2.2.2 gX12_worstBy_X12_stepsWith rfl rfl rfl (by decide +kernel) ⟨by decide, by decide⟩) rfl rfl (Nat.le_of_ble_eq_true rfl) dX12_worstBy_53 (fun r11 M12 h => ?_)
          refine V_aload_n C 0 dX12_worstBy_56 rfl ?_
          refine V_iload_n C 1 dX12_worstBy_57 rfl ?_
          refine V_iload C 8 dX12_worstBy_58 rfl ?_
          refine V_iload_n C 3 dX12_worstBy_60 rfl ?_
          refine V_iload C 4 dX12_worstBy_61 rfl ?_
          refine V_callVi (q := (RX12, TX12, 49)) (rest := [.int r11, .int v7]) C (nsM_mem (by decide)) (ceM_0 _) rfl (c_X12_stepsWith l D cy ad A G v1 v8 v3 v4 M12 _ h) (cwV 4 C.1.2.2.2.2 gX12_worstBy_X12_stepsWith rfl rfl rfl (by decide +kernel) ⟨by decide, by decide⟩) rfl rfl (Nat.le_of_ble_eq_true rfl) dX12_worstBy_63 (fun r14 M15 h => ?_)
          refine V_icmp_ne C 73 dX12_worstBy_66 (by decide) (fun q17 => ?_) (fun q17 => ?_)
          · have h := h.1 q17
            refine V_drop (lv' := [(0, .ref (ad 0)), (1, .int v1), (2, .int v2), (3, .int v3), (4, .int v4), (5, .int v5), (6, .int v6), (8, .int v8)]) [0, 1, 2, 3, 4, 5, 6, 8] rfl ?_
            exact L73 k6 hk6 (w_X12_worstBy_19  post k6 n) ih v1 v2 v3 v4 v5 v6 v8 v7 M15 h 
          · have h := h.2 q17
            refine V_iconst (v := (1 : Int32)) C dX12_worstBy_69 (by decide) ?_
            refine V_goto C 74 dX12_worstBy_70 (by decide) ?_
            refine V_iadd C dX12_worstBy_74 ?_
            refine V_istore (lv' := [(7, .int (v7 + (1 : Int32))), (0, .ref (ad 0)), (1, .int v1), (2, .int v2), (3, .int v3), (4, .int v4), (5, .int v5), (6, .int v6), (8, .int v8)]) C dX12_worstBy_75 (by decide) rfl ?_
            refine V_iinc (v := (v8 + 1)) (lv' := [(8, .int (v8 + 1)), (7, .int (v7 + (1 : Int32))), (0, .ref (ad 0)), (1, .int v1), (2, .int v2), (3, .int v3), (4, .int v4), (5, .int v5), (6, .int v6)]) C 8 dX12_worstBy_77 rfl rfl (by decide) rfl ?_
            refine V_goto C 19 dX12_worstBy_80 (by decide) ?_
            refine V_drop (lv' := [(0, .ref (ad 0)), (1, .int v1), (2, .int v2), (3, .int v3), (4, .int v4), (5, .int v5), (6, .int v6), (7, .int (v7 + (1 : Int32))), (8, .int (v8 + 1))]) [2, 3, 4, 5, 6, 7, 8, 1, 0] rfl ?_
            exact ih v1 v2 v3 v4 v5 v6 (v7 + (1 : Int32)) (v8 + 1) M15 h 
  have L6 : ∀  (n : Nat) (v1 : Int32) (v2 : Int32) (v3 : Int32) (v4 : Int32) (v5 : Int32) (v6 : Int32) (M : Mm), w_X12_worstBy_6  post  n v1 v2 v3 v4 v5 v6 M → V p l e (rmL 5) s m args below meth c (MQ below (va_Qi post (Wd D (tysC cy) ad nsM (ceM ad cy) ExM) A) args s 0 0 A) D A ad nsM (ceM ad cy) 9 M [(0, .ref (ad 0)), (1, .int v1), (2, .int v2), (3, .int v3), (4, .int v4), (5, .int v5), (6, .int v6)] 6 [] := by
    intro  n
    induction n with
    | zero => intro v1 v2 v3 v4 v5 v6 M h; exact h.elim
    | succ n ih =>
    intro v1 v2 v3 v4 v5 v6 M h 
    unfold w_X12_worstBy_6 at h
    refine V_iload C 6 dX12_worstBy_6 rfl ?_
    refine V_bipush (v := (9 : Int32)) C dX12_worstBy_8 (by decide) ?_
    refine V_icmp_gt C 105 dX12_worstBy_10 (by decide) (fun q18 => ?_) (fun q18 => ?_)
    · have h := h.1 q18
      refine V_iload C 5 dX12_worstBy_105 rfl ?_
      exact V_iret C hr hlk dX12_worstBy_107 h
    · have h := h.2 q18
      refine V_iconst (v := (0 : Int32)) C dX12_worstBy_13 (by decide) ?_
      refine V_istore (lv' := [(7, .int (0 : Int32)), (0, .ref (ad 0)), (1, .int v1), (2, .int v2), (3, .int v3), (4, .int v4), (5, .int v5), (6, .int v6)]) C dX12_worstBy_14 (by decide) rfl ?_
      refine V_iconst (v := (0 : Int32)) C dX12_worstBy_16 (by decide) ?_
      refine V_istore (lv' := [(8, .int (0 : Int32)), (7, .int (0 : Int32)), (0, .ref (ad 0)), (1, .int v1), (2, .int v2), (3, .int v3), (4, .int v4), (5, .int v5), (6, .int v6)]) C dX12_worstBy_17 (by decide) rfl ?_
      refine V_drop (lv' := [(0, .ref (ad 0)), (1, .int v1), (2, .int v2), (3, .int v3), (4, .int v4), (5, .int v5), (6, .int v6), (7, .int (0 : Int32)), (8, .int (0 : Int32))]) [2, 3, 4, 5, 6, 7, 8, 1, 0] rfl ?_
      obtain ⟨n0, h⟩ := h
      exact L19 (w_X12_worstBy_6  post  n) ih n0 v1 v2 v3 v4 v5 v6 (0 : Int32) (0 : Int32) M h 
  unfold w_X12_worstBy at h
  refine V_iconst (v := (0 : Int32)) C dX12_worstBy_0 (by decide) ?_
  refine V_istore (lv' := [(5, .int (0 : Int32)), (0, .ref (ad 0)), (1, .int x1), (2, .int x2), (3, .int x3), (4, .int x4)]) C dX12_worstBy_1 (by decide) rfl ?_
  refine V_iconst (v := (0 : Int32)) C dX12_worstBy_3 (by decide) ?_
  refine V_istore (lv' := [(6, .int (0 : Int32)), (5, .int (0 : Int32)), (0, .ref (ad 0)), (1, .int x1), (2, .int x2), (3, .int x3), (4, .int x4)]) C dX12_worstBy_4 (by decide) rfl ?_
  refine V_drop (lv' := [(0, .ref (ad 0)), (1, .int x1), (2, .int x2), (3, .int x3), (4, .int x4), (5, .int (0 : Int32)), (6, .int (0 : Int32))]) [2, 3, 4, 5, 6, 1, 0] rfl ?_
  obtain ⟨n0, h⟩ := h
  exact L6  n0 x1 x2 x3 x4 (0 : Int32) (0 : Int32) M h 
def w_X12_askOf_84  (post : Int32 → Mm → Prop) (k15 : Int32 → Int32 → Int32 → Int32 → Int32 → Mm → Prop) (k31 : Int32 → Int32 → Int32 → Int32 → Int32 → Int32 → Mm → Prop) (v1 : Int32) (v2 : Int32) (v4 : Int32) (v5 : Int32) (v6 : Int32) (v7 : Int32) (s0 : Int32) (M : Mm) : Prop :=
    ((v4 ≤ v7) → (k31 v1 v2 s0 v4 v5 (v6 + 1) M)) ∧ ((¬ v4 ≤ v7) → (k31 v1 v2 s0 v7 v5 (v6 + 1) M))
def w_X12_askOf_61  (post : Int32 → Mm → Prop) (k15 : Int32 → Int32 → Int32 → Int32 → Int32 → Mm → Prop) (k31 : Int32 → Int32 → Int32 → Int32 → Int32 → Int32 → Mm → Prop) (v1 : Int32) (v2 : Int32) (v3 : Int32) (v4 : Int32) (v5 : Int32) (v6 : Int32) (s0 : Int32) (M : Mm) : Prop :=
    ((v4 ≤ s0) → (w_X12_askOf_84  post k15 k31 v1 v2 v4 v5 v6 s0 v3 M)) ∧ ((¬ v4 ≤ s0) → (w_X12_askOf_84  post k15 k31 v1 v2 v4 v5 v6 s0 ((((10 : Int32) * v5) + v6) + (1 : Int32)) M))
def w_X12_askOf_31  (post : Int32 → Mm → Prop) (k15 : Int32 → Int32 → Int32 → Int32 → Int32 → Mm → Prop) : Nat → Int32 → Int32 → Int32 → Int32 → Int32 → Int32 → Mm → Prop
  | 0 => fun _ _ _ _ _ _ _ => False
  | n + 1 => fun v1 v2 v3 v4 v5 v6 M =>
    (((M.1 0 3) ≤ v6) → (k15 v1 v2 v3 v4 (v5 + 1) M)) ∧ ((¬ (M.1 0 3) ≤ v6) → (((¬ v6 = v1) → (w_X12_worstBy v1 v2 v5 v6 M (fun r5 M6 => w_X12_askOf_61  post k15 (w_X12_askOf_31  post k15 n) v1 v2 v3 v4 v5 v6 r5 M6))) ∧ ((v6 = v1) → (w_X12_askOf_61  post k15 (w_X12_askOf_31  post k15 n) v1 v2 v3 v4 v5 v6 (268435456 : Int32) M))))
def w_X12_askOf_15  (post : Int32 → Mm → Prop)  : Nat → Int32 → Int32 → Int32 → Int32 → Int32 → Mm → Prop
  | 0 => fun _ _ _ _ _ _ => False
  | n + 1 => fun v1 v2 v3 v4 v5 M =>
    (((M.1 0 2) ≤ v5) → (post v3 M)) ∧ ((¬ (M.1 0 2) ≤ v5) → (((v2 = 0) → (post v3 M)) ∧ ((¬ v2 = 0) → (∃ n0 : Nat, w_X12_askOf_31  post (w_X12_askOf_15  post  n) n0 v1 v2 v3 v4 v5 (-1 : Int32) M))))
def w_X12_askOf (x1 : Int32) (M : Mm) (post : Int32 → Mm → Prop) : Prop :=
  w_X12_liesBits x1 M (fun r10 M11 => ∃ n0 : Nat, w_X12_askOf_15  post  n0 x1 r10 (-1 : Int32) (268435456 : Int32) (0 : Int32) M11)
theorem iw_X12_askOf_X12 : ∀ w ∈ u_ws RX12 TX12 49, w ∈ wsX12_askOf := by decide +kernel
theorem m_X12_askOf_f156 : Cond.fieldLink RX12 156 "ShameYardsModel" "people" "I" ∈ wsX12_askOf := by decide +kernel
theorem m_X12_askOf_c207 : Jvm.Cond.constant RX12 207 (268435456) ∈ wsX12_askOf := by decide +kernel
theorem m_X12_askOf_f153 : Cond.fieldLink RX12 153 "ShameYardsModel" "passages" "I" ∈ wsX12_askOf := by decide +kernel
set_option maxHeartbeats 4000000 in
set_option maxRecDepth 100000 in
theorem c_X12_askOf (l : Launch) (D : va_G) (cy : Nat → ClassId) (ad : Nat → Nat) (A : Nat → Prop) (G : Gd A ad nsM)   (x1 : Int32) (M : Mm) (post : Int32 → Mm → Prop) (h : w_X12_askOf x1 M post) : CI l yX12_askOf wsX12_askOf (rmL 6) D (tysC cy) A ad nsM (ceM ad cy) ExM [.ref (ad 0), .int x1] M post := by
  refine Met_V (cc := cX12_askOf) (maxL := 8) (ret := (some .int)) (by decide) rfl G Lo_M ExM_ok (Nat.le_of_ble_eq_true rfl) rfl ?_
  intro p e s m args below meth c C hr hlk
  have C : Cx p s m args c cX12_askOf 8 RX12 wsX12_askOf D (tysC cy) A ad nsM (ceM ad cy) ExM := C
  have L84 : ∀ (k15 : Int32 → Int32 → Int32 → Int32 → Int32 → Mm → Prop) (hk15 : ∀ (v1 : Int32) (v2 : Int32) (v3 : Int32) (v4 : Int32) (v5 : Int32) (M : Mm), k15 v1 v2 v3 v4 v5 M → V p l e (rmL 6) s m args below meth c (MQ below (va_Qi post (Wd D (tysC cy) ad nsM (ceM ad cy) ExM) A) args s 0 0 A) D A ad nsM (ceM ad cy) 8 M [(0, .ref (ad 0)), (1, .int v1), (2, .int v2), (3, .int v3), (4, .int v4), (5, .int v5)] 15 []) (k31 : Int32 → Int32 → Int32 → Int32 → Int32 → Int32 → Mm → Prop) (hk31 : ∀ (v1 : Int32) (v2 : Int32) (v3 : Int32) (v4 : Int32) (v5 : Int32) (v6 : Int32) (M : Mm), k31 v1 v2 v3 v4 v5 v6 M → V p l e (rmL 6) s m args below meth c (MQ below (va_Qi post (Wd D (tysC cy) ad nsM (ceM ad cy) ExM) A) args s 0 0 A) D A ad nsM (ceM ad cy) 8 M [(0, .ref (ad 0)), (1, .int v1), (2, .int v2), (3, .int v3), (4, .int v4), (5, .int v5), (6, .int v6)] 31 []) (v1 : Int32) (v2 : Int32) (v4 : Int32) (v5 : Int32) (v6 : Int32) (v7 : Int32) (s0 : Int32) (M : Mm), w_X12_askOf_84  post k15 k31 v1 v2 v4 v5 v6 v7 s0 M → V p l e (rmL 6) s m args below meth c (MQ below (va_Qi post (Wd D (tysC cy) ad nsM (ceM ad cy) ExM) A) args s 0 0 A) D A ad nsM (ceM ad cy) 8 M [(0, .ref (ad 0)), (1, .int v1), (2, .int v2), (4, .int v4), (5, .int v5), (6, .int v6), (7, .int v7)] 84 [.int s0] := by
    intro k15 hk15 k31 hk31 v1 v2 v4 v5 v6 v7 s0 M h 
    unfold w_X12_askOf_84 at h
    refine V_istore_n (lv' := [(3, .int s0), (0, .ref (ad 0)), (1, .int v1), (2, .int v2), (4, .int v4), (5, .int v5), (6, .int v6), (7, .int v7)]) C dX12_askOf_84 rfl (by decide) rfl ?_
    refine V_iload C 7 dX12_askOf_85 rfl ?_
    refine V_iload C 4 dX12_askOf_87 rfl ?_
    refine V_icmp_ge C 97 dX12_askOf_89 (by decide) (fun q1 => ?_) (fun q1 => ?_)
    · have h := h.1 q1
      refine V_iload C 4 dX12_askOf_97 rfl ?_
      refine V_istore (lv' := [(4, .int v4), (3, .int s0), (0, .ref (ad 0)), (1, .int v1), (2, .int v2), (5, .int v5), (6, .int v6), (7, .int v7)]) C dX12_askOf_99 (by decide) rfl ?_
      refine V_iinc (v := (v6 + 1)) (lv' := [(6, .int (v6 + 1)), (4, .int v4), (3, .int s0), (0, .ref (ad 0)), (1, .int v1), (2, .int v2), (5, .int v5), (7, .int v7)]) C 6 dX12_askOf_101 rfl rfl (by decide) rfl ?_
      refine V_goto C 31 dX12_askOf_104 (by decide) ?_
      refine V_drop (lv' := [(0, .ref (ad 0)), (1, .int v1), (2, .int v2), (3, .int s0), (4, .int v4), (5, .int v5), (6, .int (v6 + 1))]) [3, 4, 5, 2, 1, 6, 0] rfl ?_
      exact hk31 v1 v2 s0 v4 v5 (v6 + 1) M h 
    · have h := h.2 q1
      refine V_iload C 7 dX12_askOf_92 rfl ?_
      refine V_goto C 99 dX12_askOf_94 (by decide) ?_
      refine V_istore (lv' := [(4, .int v7), (3, .int s0), (0, .ref (ad 0)), (1, .int v1), (2, .int v2), (5, .int v5), (6, .int v6), (7, .int v7)]) C dX12_askOf_99 (by decide) rfl ?_
      refine V_iinc (v := (v6 + 1)) (lv' := [(6, .int (v6 + 1)), (4, .int v7), (3, .int s0), (0, .ref (ad 0)), (1, .int v1), (2, .int v2), (5, .int v5), (7, .int v7)]) C 6 dX12_askOf_101 rfl rfl (by decide) rfl ?_
      refine V_goto C 31 dX12_askOf_104 (by decide) ?_
      refine V_drop (lv' := [(0, .ref (ad 0)), (1, .int v1), (2, .int v2), (3, .int s0), (4, .int v7), (5, .int v5), (6, .int (v6 + 1))]) [3, 4, 5, 2, 1, 6, 0] rfl ?_
      exact hk31 v1 v2 s0 v7 v5 (v6 + 1) M h 
  have L61 : ∀ (k15 : Int32 → Int32 → Int32 → Int32 → Int32 → Mm → Prop) (hk15 : ∀ (v1 : Int32) (v2 : Int32) (v3 : Int32) (v4 : Int32) (v5 : Int32) (M : Mm), k15 v1 v2 v3 v4 v5 M → V p l e (rmL 6) s m args below meth c (MQ below (va_Qi post (Wd D (tysC cy) ad nsM (ceM ad cy) ExM) A) args s 0 0 A) D A ad nsM (ceM ad cy) 8 M [(0, .ref (ad 0)), (1, .int v1), (2, .int v2), (3, .int v3), (4, .int v4), (5, .int v5)] 15 []) (k31 : Int32 → Int32 → Int32 → Int32 → Int32 → Int32 → Mm → Prop) (hk31 : ∀ (v1 : Int32) (v2 : Int32) (v3 : Int32) (v4 : Int32) (v5 : Int32) (v6 : Int32) (M : Mm), k31 v1 v2 v3 v4 v5 v6 M → V p l e (rmL 6) s m args below meth c (MQ below (va_Qi post (Wd D (tysC cy) ad nsM (ceM ad cy) ExM) A) args s 0 0 A) D A ad nsM (ceM ad cy) 8 M [(0, .ref (ad 0)), (1, .int v1), (2, .int v2), (3, .int v3), (4, .int v4), (5, .int v5), (6, .int v6)] 31 []) (v1 : Int32) (v2 : Int32) (v3 : Int32) (v4 : Int32) (v5 : Int32) (v6 : Int32) (s0 : Int32) (M : Mm), w_X12_askOf_61  post k15 k31 v1 v2 v3 v4 v5 v6 s0 M → V p l e (rmL 6) s m args below meth c (MQ below (va_Qi post (Wd D (tysC cy) ad nsM (ceM ad cy) ExM) A) args s 0 0 A) D A ad nsM (ceM ad cy) 8 M [(0, .ref (ad 0)), (1, .int v1), (2, .int v2), (3, .int v3), (4, .int v4), (5, .int v5), (6, .int v6)] 61 [.int s0] := by
    intro k15 hk15 k31 hk31 v1 v2 v3 v4 v5 v6 s0 M h 
    unfold w_X12_askOf_61 at h
    refine V_istore (lv' := [(7, .int s0), (0, .ref (ad 0)), (1, .int v1), (2, .int v2), (3, .int v3), (4, .int v4), (5, .int v5), (6, .int v6)]) C dX12_askOf_61 (by decide) rfl ?_
    refine V_iload C 0 dX12_askOf_63 rfl ?_
    refine V_iload C 5 dX12_askOf_65 rfl ?_
    refine V_icmp_ge C 83 dX12_askOf_67 (by decide) (fun q2 => ?_) (fun q2 => ?_)
    · have h := h.1 q2
      refine V_iload_n C 4 dX12_askOf_83 rfl ?_
      refine V_drop (lv' := [(0, .ref (ad 0)), (1, .int v1), (2, .int v2), (4, .int v4), (5, .int v5), (6, .int v6), (7, .int s0)]) [1, 2, 3, 5, 6, 7, 0] rfl ?_
      exact L84 k15 hk15 k31 hk31 v1 v2 v4 v5 v6 s0 v3 M h 
    · have h := h.2 q2
      refine V_bipush (v := (10 : Int32)) C dX12_askOf_70 (by decide) ?_
      refine V_iload C 6 dX12_askOf_72 rfl ?_
      refine V_imul C dX12_askOf_74 ?_
      refine V_iload C 7 dX12_askOf_75 rfl ?_
      refine V_iadd C dX12_askOf_77 ?_
      refine V_iconst (v := (1 : Int32)) C dX12_askOf_78 (by decide) ?_
      refine V_iadd C dX12_askOf_79 ?_
      refine V_goto C 84 dX12_askOf_80 (by decide) ?_
      refine V_drop (lv' := [(0, .ref (ad 0)), (1, .int v1), (2, .int v2), (4, .int v4), (5, .int v5), (6, .int v6), (7, .int s0)]) [1, 2, 3, 5, 6, 7, 0] rfl ?_
      exact L84 k15 hk15 k31 hk31 v1 v2 v4 v5 v6 s0 ((((10 : Int32) * v5) + v6) + (1 : Int32)) M h 
  have L31 : ∀ (k15 : Int32 → Int32 → Int32 → Int32 → Int32 → Mm → Prop) (hk15 : ∀ (v1 : Int32) (v2 : Int32) (v3 : Int32) (v4 : Int32) (v5 : Int32) (M : Mm), k15 v1 v2 v3 v4 v5 M → V p l e (rmL 6) s m args below meth c (MQ below (va_Qi post (Wd D (tysC cy) ad nsM (ceM ad cy) ExM) A) args s 0 0 A) D A ad nsM (ceM ad cy) 8 M [(0, .ref (ad 0)), (1, .int v1), (2, .int v2), (3, .int v3), (4, .int v4), (5, .int v5)] 15 []) (n : Nat) (v1 : Int32) (v2 : Int32) (v3 : Int32) (v4 : Int32) (v5 : Int32) (v6 : Int32) (M : Mm), w_X12_askOf_31  post k15 n v1 v2 v3 v4 v5 v6 M → V p l e (rmL 6) s m args below meth c (MQ below (va_Qi post (Wd D (tysC cy) ad nsM (ceM ad cy) ExM) A) args s 0 0 A) D A ad nsM (ceM ad cy) 8 M [(0, .ref (ad 0)), (1, .int v1), (2, .int v2), (3, .int v3), (4, .int v4), (5, .int v5), (6, .int v6)] 31 [] := by
    intro k15 hk15 n
    induction n with
    | zero => intro v1 v2 v3 v4 v5 v6 M h; exact h.elim
    | succ n ih =>
    intro v1 v2 v3 v4 v5 v6 M h 
    unfold w_X12_askOf_31 at h
    refine V_iload C 6 dX12_askOf_31 rfl ?_
    refine V_aload_n C 0 dX12_askOf_33 rfl ?_
    refine V_get (k0 := 3) (Cn := RX12) (T := TX12) (N := 49) C (nsM_mem (by decide)) rfl iw_X12_askOf_X12 (by decide) rfl m_X12_askOf_f156 (ceM_0 _) rfl dX12_askOf_34 ?_
    refine V_icmp_ge C 107 dX12_askOf_37 (by decide) (fun q3 => ?_) (fun q3 => ?_)
    · have h := h.1 q3
      refine V_iinc (v := (v5 + 1)) (lv' := [(5, .int (v5 + 1)), (0, .ref (ad 0)), (1, .int v1), (2, .int v2), (3, .int v3), (4, .int v4), (6, .int v6)]) C 5 dX12_askOf_107 rfl rfl (by decide) rfl ?_
      refine V_goto C 15 dX12_askOf_110 (by decide) ?_
      refine V_drop (lv' := [(0, .ref (ad 0)), (1, .int v1), (2, .int v2), (3, .int v3), (4, .int v4), (5, .int (v5 + 1))]) [1, 2, 3, 4, 5, 0] rfl ?_
      exact hk15 v1 v2 v3 v4 (v5 + 1) M h 
    · have h := h.2 q3
      refine V_iload C 6 dX12_askOf_40 rfl ?_
      refine V_iload_n C 1 dX12_askOf_42 rfl ?_
      refine V_icmp_ne C 51 dX12_askOf_43 (by decide) (fun q4 => ?_) (fun q4 => ?_)
      · have h := h.1 q4
        refine V_aload_n C 0 dX12_askOf_51 rfl ?_
        refine V_iload_n C 1 dX12_askOf_52 rfl ?_
        refine V_iload_n C 2 dX12_askOf_53 rfl ?_
        refine V_iload C 5 dX12_askOf_54 rfl ?_
        refine V_iload C 6 dX12_askOf_56 rfl ?_
        refine V_callVi (q := (RX12, TX12, 49)) (rest := []) C (nsM_mem (by decide)) (ceM_0 _) rfl (c_X12_worstBy l D cy ad A G v1 v2 v5 v6 M _ h) (cwV 4 C.1.2.2.2.2 gX12_askOf_X12_worstBy rfl rfl rfl (by decide +kernel) ⟨by decide, by decide⟩) rfl rfl (Nat.le_of_ble_eq_true rfl) dX12_askOf_58 (fun r5 M6 h => ?_)
        refine V_drop (lv' := [(0, .ref (ad 0)), (1, .int v1), (2, .int v2), (3, .int v3), (4, .int v4), (5, .int v5), (6, .int v6)]) [0, 1, 2, 3, 4, 5, 6] rfl ?_
        exact L61 k15 hk15 (w_X12_askOf_31  post k15 n) ih v1 v2 v3 v4 v5 v6 r5 M6 h 
      · have h := h.2 q4
        refine V_ldc (v := (268435456 : Int32)) C dX12_askOf_46 m_X12_askOf_c207 ?_
        refine V_goto C 61 dX12_askOf_48 (by decide) ?_
        refine V_drop (lv' := [(0, .ref (ad 0)), (1, .int v1), (2, .int v2), (3, .int v3), (4, .int v4), (5, .int v5), (6, .int v6)]) [0, 1, 2, 3, 4, 5, 6] rfl ?_
        exact L61 k15 hk15 (w_X12_askOf_31  post k15 n) ih v1 v2 v3 v4 v5 v6 (268435456 : Int32) M h 
  have L15 : ∀  (n : Nat) (v1 : Int32) (v2 : Int32) (v3 : Int32) (v4 : Int32) (v5 : Int32) (M : Mm), w_X12_askOf_15  post  n v1 v2 v3 v4 v5 M → V p l e (rmL 6) s m args below meth c (MQ below (va_Qi post (Wd D (tysC cy) ad nsM (ceM ad cy) ExM) A) args s 0 0 A) D A ad nsM (ceM ad cy) 8 M [(0, .ref (ad 0)), (1, .int v1), (2, .int v2), (3, .int v3), (4, .int v4), (5, .int v5)] 15 [] := by
    intro  n
    induction n with
    | zero => intro v1 v2 v3 v4 v5 M h; exact h.elim
    | succ n ih =>
    intro v1 v2 v3 v4 v5 M h 
    unfold w_X12_askOf_15 at h
    refine V_iload C 5 dX12_askOf_15 rfl ?_
    refine V_aload_n C 0 dX12_askOf_17 rfl ?_
    refine V_get (k0 := 2) (Cn := RX12) (T := TX12) (N := 49) C (nsM_mem (by decide)) rfl iw_X12_askOf_X12 (by decide) rfl m_X12_askOf_f153 (ceM_0 _) rfl dX12_askOf_18 ?_
    refine V_icmp_ge C 113 dX12_askOf_21 (by decide) (fun q8 => ?_) (fun q8 => ?_)
    · have h := h.1 q8
      refine V_iload_n C 3 dX12_askOf_113 rfl ?_
      exact V_iret C hr hlk dX12_askOf_114 h
    · have h := h.2 q8
      refine V_iload_n C 2 dX12_askOf_24 rfl ?_
      refine V_if_eq C 113 dX12_askOf_25 (by decide) (fun q9 => ?_) (fun q9 => ?_)
      · have h := h.1 q9
        refine V_iload_n C 3 dX12_askOf_113 rfl ?_
        exact V_iret C hr hlk dX12_askOf_114 h
      · have h := h.2 q9
        refine V_iconst (v := (-1 : Int32)) C dX12_askOf_28 (by decide) ?_
        refine V_istore (lv' := [(6, .int (-1 : Int32)), (0, .ref (ad 0)), (1, .int v1), (2, .int v2), (3, .int v3), (4, .int v4), (5, .int v5)]) C dX12_askOf_29 (by decide) rfl ?_
        refine V_drop (lv' := [(0, .ref (ad 0)), (1, .int v1), (2, .int v2), (3, .int v3), (4, .int v4), (5, .int v5), (6, .int (-1 : Int32))]) [1, 2, 3, 4, 5, 6, 0] rfl ?_
        obtain ⟨n0, h⟩ := h
        exact L31 (w_X12_askOf_15  post  n) ih n0 v1 v2 v3 v4 v5 (-1 : Int32) M h 
  unfold w_X12_askOf at h
  refine V_aload_n C 0 dX12_askOf_0 rfl ?_
  refine V_iload_n C 1 dX12_askOf_1 rfl ?_
  refine V_callVi (q := (RX12, TX12, 49)) (rest := []) C (nsM_mem (by decide)) (ceM_0 _) rfl (c_X12_liesBits l D cy ad A G x1 M _ h) (cwV 1 C.1.2.2.2.2 gX12_askOf_X12_liesBits rfl rfl rfl (by decide +kernel) ⟨by decide, by decide⟩) rfl rfl (Nat.le_of_ble_eq_true rfl) dX12_askOf_2 (fun r10 M11 h => ?_)
  refine V_istore_n (lv' := [(2, .int r10), (0, .ref (ad 0)), (1, .int x1)]) C dX12_askOf_5 rfl (by decide) rfl ?_
  refine V_iconst (v := (-1 : Int32)) C dX12_askOf_6 (by decide) ?_
  refine V_istore_n (lv' := [(3, .int (-1 : Int32)), (2, .int r10), (0, .ref (ad 0)), (1, .int x1)]) C dX12_askOf_7 rfl (by decide) rfl ?_
  refine V_ldc (v := (268435456 : Int32)) C dX12_askOf_8 m_X12_askOf_c207 ?_
  refine V_istore (lv' := [(4, .int (268435456 : Int32)), (3, .int (-1 : Int32)), (2, .int r10), (0, .ref (ad 0)), (1, .int x1)]) C dX12_askOf_10 (by decide) rfl ?_
  refine V_iconst (v := (0 : Int32)) C dX12_askOf_12 (by decide) ?_
  refine V_istore (lv' := [(5, .int (0 : Int32)), (4, .int (268435456 : Int32)), (3, .int (-1 : Int32)), (2, .int r10), (0, .ref (ad 0)), (1, .int x1)]) C dX12_askOf_13 (by decide) rfl ?_
  refine V_drop (lv' := [(0, .ref (ad 0)), (1, .int x1), (2, .int r10), (3, .int (-1 : Int32)), (4, .int (268435456 : Int32)), (5, .int (0 : Int32))]) [4, 5, 3, 2, 1, 0] rfl ?_
  obtain ⟨n0, h⟩ := h
  exact L15  n0 x1 r10 (-1 : Int32) (268435456 : Int32) (0 : Int32) M11 h 
def w_X12_personNow (x1 : Int32) (x2 : Int32) (M : Mm) (post : Int32 → Mm → Prop) : Prop :=
  ((x2 = 0) → ((vp_in x1 5) ∧ (post (M.1 4 x1.toNatClampNeg) M))) ∧ ((¬ x2 = 0) → (((x2 = 1) → ((vp_in x1 5) ∧ (post (M.1 5 x1.toNatClampNeg) M))) ∧ ((¬ x2 = 1) → (((x2 = 2) → ((vp_in x1 5) ∧ (post (M.1 6 x1.toNatClampNeg) M))) ∧ ((¬ x2 = 2) → (((x2 = 3) → ((vp_in x1 5) ∧ (post (M.1 7 x1.toNatClampNeg) M))) ∧ ((¬ x2 = 3) → (((x2 = 4) → ((vp_in x1 5) ∧ (post (M.1 8 x1.toNatClampNeg) M))) ∧ ((¬ x2 = 4) → (((x2 = 5) → (w_X12_liesBits x1 M (fun r12 M13 => post r12 M13))) ∧ ((¬ x2 = 5) → (w_X12_askOf x1 M (fun r15 M16 => post r15 M16)))))))))))))
theorem iw_X12_personNow_X12 : ∀ w ∈ u_ws RX12 TX12 49, w ∈ wsX12_personNow := by decide +kernel
theorem m_X12_personNow_f19 : Cond.fieldLink RX12 19 "ShameYardsModel" "kindOf" "[I" ∈ wsX12_personNow := by decide +kernel
theorem m_X12_personNow_f22 : Cond.fieldLink RX12 22 "ShameYardsModel" "deedsOf" "[I" ∈ wsX12_personNow := by decide +kernel
theorem m_X12_personNow_f25 : Cond.fieldLink RX12 25 "ShameYardsModel" "liesOf" "[I" ∈ wsX12_personNow := by decide +kernel
theorem m_X12_personNow_f28 : Cond.fieldLink RX12 28 "ShameYardsModel" "roomOf" "[I" ∈ wsX12_personNow := by decide +kernel
theorem m_X12_personNow_f31 : Cond.fieldLink RX12 31 "ShameYardsModel" "tookOf" "[I" ∈ wsX12_personNow := by decide +kernel
set_option maxHeartbeats 4000000 in
set_option maxRecDepth 100000 in
theorem c_X12_personNow (l : Launch) (D : va_G) (cy : Nat → ClassId) (ad : Nat → Nat) (A : Nat → Prop) (G : Gd A ad nsM)   (x1 : Int32) (x2 : Int32) (M : Mm) (post : Int32 → Mm → Prop) (h : w_X12_personNow x1 x2 M post) : CI l yX12_personNow wsX12_personNow (rmL 7) D (tysC cy) A ad nsM (ceM ad cy) ExM [.ref (ad 0), .int x1, .int x2] M post := by
  refine Met_V (cc := cX12_personNow) (maxL := 3) (ret := (some .int)) (by decide) rfl G Lo_M ExM_ok (Nat.le_of_ble_eq_true rfl) rfl ?_
  intro p e s m args below meth c C hr hlk
  have C : Cx p s m args c cX12_personNow 3 RX12 wsX12_personNow D (tysC cy) A ad nsM (ceM ad cy) ExM := C
  unfold w_X12_personNow at h
  refine V_iload_n C 2 dX12_personNow_0 rfl ?_
  by_cases q1 : x2 = 0
  · have h := h.1 q1
    refine V_tswIn C 40 dX12_personNow_1 (by rw [q1]; decide) (by rw [q1]; decide) (by rw [q1]; rfl) (by decide) ?_
    refine V_aload_n C 0 dX12_personNow_40 rfl ?_
    refine V_get (k0 := 7) (Cn := RX12) (T := TX12) (N := 49) C (nsM_mem (by decide)) rfl iw_X12_personNow_X12 (by decide) rfl m_X12_personNow_f19 (ceM_0 _) rfl dX12_personNow_41 ?_
    refine V_iload_n C 1 dX12_personNow_44 rfl ?_
    have g2 := h.1
    have h := h.2
    refine V_iald (t0 := 1) (L := 5) C (nsM_mem (by decide)) (fun _ => rfl) rfl g2 dX12_personNow_45 ?_
    exact V_iret C hr hlk dX12_personNow_46 h
  · have h := h.2 q1
    by_cases q3 : x2 = 1
    · have h := h.1 q3
      refine V_tswIn C 47 dX12_personNow_1 (by rw [q3]; decide) (by rw [q3]; decide) (by rw [q3]; rfl) (by decide) ?_
      refine V_aload_n C 0 dX12_personNow_47 rfl ?_
      refine V_get (k0 := 8) (Cn := RX12) (T := TX12) (N := 49) C (nsM_mem (by decide)) rfl iw_X12_personNow_X12 (by decide) rfl m_X12_personNow_f22 (ceM_0 _) rfl dX12_personNow_48 ?_
      refine V_iload_n C 1 dX12_personNow_51 rfl ?_
      have g4 := h.1
      have h := h.2
      refine V_iald (t0 := 1) (L := 5) C (nsM_mem (by decide)) (fun _ => rfl) rfl g4 dX12_personNow_52 ?_
      exact V_iret C hr hlk dX12_personNow_53 h
    · have h := h.2 q3
      by_cases q5 : x2 = 2
      · have h := h.1 q5
        refine V_tswIn C 54 dX12_personNow_1 (by rw [q5]; decide) (by rw [q5]; decide) (by rw [q5]; rfl) (by decide) ?_
        refine V_aload_n C 0 dX12_personNow_54 rfl ?_
        refine V_get (k0 := 9) (Cn := RX12) (T := TX12) (N := 49) C (nsM_mem (by decide)) rfl iw_X12_personNow_X12 (by decide) rfl m_X12_personNow_f25 (ceM_0 _) rfl dX12_personNow_55 ?_
        refine V_iload_n C 1 dX12_personNow_58 rfl ?_
        have g6 := h.1
        have h := h.2
        refine V_iald (t0 := 1) (L := 5) C (nsM_mem (by decide)) (fun _ => rfl) rfl g6 dX12_personNow_59 ?_
        exact V_iret C hr hlk dX12_personNow_60 h
      · have h := h.2 q5
        by_cases q7 : x2 = 3
        · have h := h.1 q7
          refine V_tswIn C 61 dX12_personNow_1 (by rw [q7]; decide) (by rw [q7]; decide) (by rw [q7]; rfl) (by decide) ?_
          refine V_aload_n C 0 dX12_personNow_61 rfl ?_
          refine V_get (k0 := 10) (Cn := RX12) (T := TX12) (N := 49) C (nsM_mem (by decide)) rfl iw_X12_personNow_X12 (by decide) rfl m_X12_personNow_f28 (ceM_0 _) rfl dX12_personNow_62 ?_
          refine V_iload_n C 1 dX12_personNow_65 rfl ?_
          have g8 := h.1
          have h := h.2
          refine V_iald (t0 := 1) (L := 5) C (nsM_mem (by decide)) (fun _ => rfl) rfl g8 dX12_personNow_66 ?_
          exact V_iret C hr hlk dX12_personNow_67 h
        · have h := h.2 q7
          by_cases q9 : x2 = 4
          · have h := h.1 q9
            refine V_tswIn C 68 dX12_personNow_1 (by rw [q9]; decide) (by rw [q9]; decide) (by rw [q9]; rfl) (by decide) ?_
            refine V_aload_n C 0 dX12_personNow_68 rfl ?_
            refine V_get (k0 := 11) (Cn := RX12) (T := TX12) (N := 49) C (nsM_mem (by decide)) rfl iw_X12_personNow_X12 (by decide) rfl m_X12_personNow_f31 (ceM_0 _) rfl dX12_personNow_69 ?_
            refine V_iload_n C 1 dX12_personNow_72 rfl ?_
            have g10 := h.1
            have h := h.2
            refine V_iald (t0 := 1) (L := 5) C (nsM_mem (by decide)) (fun _ => rfl) rfl g10 dX12_personNow_73 ?_
            exact V_iret C hr hlk dX12_personNow_74 h
          · have h := h.2 q9
            by_cases q11 : x2 = 5
            · have h := h.1 q11
              refine V_tswIn C 75 dX12_personNow_1 (by rw [q11]; decide) (by rw [q11]; decide) (by rw [q11]; rfl) (by decide) ?_
              refine V_aload_n C 0 dX12_personNow_75 rfl ?_
              refine V_iload_n C 1 dX12_personNow_76 rfl ?_
              refine V_callVi (q := (RX12, TX12, 49)) (rest := []) C (nsM_mem (by decide)) (ceM_0 _) rfl (c_X12_liesBits l D cy ad A G x1 M _ h) (cwV 1 C.1.2.2.2.2 gX12_personNow_X12_liesBits rfl rfl rfl (by decide +kernel) ⟨by decide, by decide⟩) rfl rfl (Nat.le_of_ble_eq_true rfl) dX12_personNow_77 (fun r12 M13 h => ?_)
              exact V_iret C hr hlk dX12_personNow_80 h
            · have h := h.2 q11
              refine V_tswOut C 81 dX12_personNow_1 (by have := lv_neT q1 (show (0 : Int32).toInt = 0 by decide); have := lv_neT q3 (show (1 : Int32).toInt = 1 by decide); have := lv_neT q5 (show (2 : Int32).toInt = 2 by decide); have := lv_neT q7 (show (3 : Int32).toInt = 3 by decide); have := lv_neT q9 (show (4 : Int32).toInt = 4 by decide); have := lv_neT q11 (show (5 : Int32).toInt = 5 by decide); omega) (by decide) ?_
              refine V_aload_n C 0 dX12_personNow_81 rfl ?_
              refine V_iload_n C 1 dX12_personNow_82 rfl ?_
              refine V_callVi (q := (RX12, TX12, 49)) (rest := []) C (nsM_mem (by decide)) (ceM_0 _) rfl (c_X12_askOf l D cy ad A G x1 M _ h) (cwV 1 C.1.2.2.2.2 gX12_personNow_X12_askOf rfl rfl rfl (by decide +kernel) ⟨by decide, by decide⟩) rfl rfl (Nat.le_of_ble_eq_true rfl) dX12_personNow_83 (fun r15 M16 h => ?_)
              exact V_iret C hr hlk dX12_personNow_86 h
def w_X12_person (x1 : Int32) (x2 : Int32) (M : Mm) (post : Int32 → Mm → Prop) : Prop :=
  w_X12_isPerson x1 M (fun r1 M2 => ((¬ r1 = 0) → (w_X12_within x2 (0 : Int32) (6 : Int32) M2 (fun r5 M6 => ((r5 = 0) → (post (-102 : Int32) M6)) ∧ ((¬ r5 = 0) → (w_X12_personNow x1 x2 M6 (fun r9 M10 => post r9 M10)))))) ∧ ((r1 = 0) → (post (-101 : Int32) M2)))
set_option maxHeartbeats 4000000 in
set_option maxRecDepth 100000 in
theorem c_X12_person (l : Launch) (D : va_G) (cy : Nat → ClassId) (ad : Nat → Nat) (A : Nat → Prop) (G : Gd A ad nsM)   (x1 : Int32) (x2 : Int32) (M : Mm) (post : Int32 → Mm → Prop) (h : w_X12_person x1 x2 M post) : CI l yX12_person wsX12_person (rmL 8) D (tysC cy) A ad nsM (ceM ad cy) ExM [.ref (ad 0), .int x1, .int x2] M post := by
  refine Met_V (cc := cX12_person) (maxL := 3) (ret := (some .int)) (by decide) rfl G Lo_M ExM_ok (Nat.le_of_ble_eq_true rfl) rfl ?_
  intro p e s m args below meth c C hr hlk
  have C : Cx p s m args c cX12_person 3 RX12 wsX12_person D (tysC cy) A ad nsM (ceM ad cy) ExM := C
  unfold w_X12_person at h
  refine V_aload_n C 0 dX12_person_0 rfl ?_
  refine V_iload_n C 1 dX12_person_1 rfl ?_
  refine V_callVi (q := (RX12, TX12, 49)) (rest := []) C (nsM_mem (by decide)) (ceM_0 _) rfl (c_X12_isPerson l D cy ad A G x1 M _ h) (cwV 1 C.1.2.2.2.2 gX12_person_X12_isPerson rfl rfl rfl (by decide +kernel) ⟨by decide, by decide⟩) rfl rfl (Nat.le_of_ble_eq_true rfl) dX12_person_2 (fun r1 M2 h => ?_)
  obtain ⟨z3, h⟩ := h
  refine V_if_ne C 13 dX12_person_5 (by decide) (fun q4 => ?_) (fun q4 => ?_)
  · have h := h.1 q4
    refine V_iload_n C 2 dX12_person_13 rfl ?_
    refine V_iconst (v := (0 : Int32)) C dX12_person_14 (by decide) ?_
    refine V_bipush (v := (6 : Int32)) C dX12_person_15 (by decide) ?_
    refine V_callSi (rest := []) C (c_X12_within l D cy ad A G x2 (0 : Int32) (6 : Int32) M2 _ h) (va_cwS 3 C.1.2.2.2.2 gX12_person_X12_within rfl rfl rfl (by decide +kernel) ⟨by decide, by decide⟩) rfl rfl (Nat.le_of_ble_eq_true rfl) dX12_person_17 (fun r5 M6 h => ?_)
    obtain ⟨z7, h⟩ := h
    refine V_if_eq C 32 dX12_person_20 (by decide) (fun q8 => ?_) (fun q8 => ?_)
    · have h := h.1 q8
      refine V_bipush (v := (-102 : Int32)) C dX12_person_32 (by decide) ?_
      exact V_iret C hr hlk dX12_person_34 h
    · have h := h.2 q8
      refine V_aload_n C 0 dX12_person_23 rfl ?_
      refine V_iload_n C 1 dX12_person_24 rfl ?_
      refine V_iload_n C 2 dX12_person_25 rfl ?_
      refine V_callVi (q := (RX12, TX12, 49)) (rest := []) C (nsM_mem (by decide)) (ceM_0 _) rfl (c_X12_personNow l D cy ad A G x1 x2 M6 _ h) (cwV 2 C.1.2.2.2.2 gX12_person_X12_personNow rfl rfl rfl (by decide +kernel) ⟨by decide, by decide⟩) rfl rfl (Nat.le_of_ble_eq_true rfl) dX12_person_26 (fun r9 M10 h => ?_)
      refine V_goto C 34 dX12_person_29 (by decide) ?_
      exact V_iret C hr hlk dX12_person_34 h
  · have h := h.2 q4
    refine V_bipush (v := (-101 : Int32)) C dX12_person_8 (by decide) ?_
    refine V_goto C 34 dX12_person_10 (by decide) ?_
    exact V_iret C hr hlk dX12_person_34 h
def w_X12_as (x1 : Int32) (x2 : Int32) (M : Mm) (post : Int32 → Mm → Prop) : Prop :=
  w_X12_isPerson x1 M (fun r1 M2 => ((¬ r1 = 0) → (w_X12_within x2 (0 : Int32) (4 : Int32) M2 (fun r5 M6 => ((¬ r5 = 0) → ((vp_in x1 5) ∧ (((x2 = 0) → (post x1 M6)) ∧ ((¬ x2 = 0) → ((((M6.1 4 x1.toNatClampNeg) = x2) → (post x1 M6)) ∧ ((¬ (M6.1 4 x1.toNatClampNeg) = x2) → (((¬ x2 = (2 : Int32)) → (post (-1 : Int32) M6)) ∧ ((x2 = (2 : Int32)) → (((¬ (M6.1 4 x1.toNatClampNeg) = (4 : Int32)) → (post (-1 : Int32) M6)) ∧ (((M6.1 4 x1.toNatClampNeg) = (4 : Int32)) → (post x1 M6))))))))))) ∧ ((r5 = 0) → (post (-102 : Int32) M6))))) ∧ ((r1 = 0) → (post (-101 : Int32) M2)))
theorem iw_X12_as_X12 : ∀ w ∈ u_ws RX12 TX12 49, w ∈ wsX12_as := by decide +kernel
theorem m_X12_as_f19 : Cond.fieldLink RX12 19 "ShameYardsModel" "kindOf" "[I" ∈ wsX12_as := by decide +kernel
set_option maxHeartbeats 4000000 in
set_option maxRecDepth 100000 in
theorem c_X12_as (l : Launch) (D : va_G) (cy : Nat → ClassId) (ad : Nat → Nat) (A : Nat → Prop) (G : Gd A ad nsM)   (x1 : Int32) (x2 : Int32) (M : Mm) (post : Int32 → Mm → Prop) (h : w_X12_as x1 x2 M post) : CI l yX12_as wsX12_as (rmL 4) D (tysC cy) A ad nsM (ceM ad cy) ExM [.ref (ad 0), .int x1, .int x2] M post := by
  refine Met_V (cc := cX12_as) (maxL := 4) (ret := (some .int)) (by decide) rfl G Lo_M ExM_ok (Nat.le_of_ble_eq_true rfl) rfl ?_
  intro p e s m args below meth c C hr hlk
  have C : Cx p s m args c cX12_as 4 RX12 wsX12_as D (tysC cy) A ad nsM (ceM ad cy) ExM := C
  unfold w_X12_as at h
  refine V_aload_n C 0 dX12_as_0 rfl ?_
  refine V_iload_n C 1 dX12_as_1 rfl ?_
  refine V_callVi (q := (RX12, TX12, 49)) (rest := []) C (nsM_mem (by decide)) (ceM_0 _) rfl (c_X12_isPerson l D cy ad A G x1 M _ h) (cwV 1 C.1.2.2.2.2 gX12_as_X12_isPerson rfl rfl rfl (by decide +kernel) ⟨by decide, by decide⟩) rfl rfl (Nat.le_of_ble_eq_true rfl) dX12_as_2 (fun r1 M2 h => ?_)
  obtain ⟨z3, h⟩ := h
  refine V_if_ne C 11 dX12_as_5 (by decide) (fun q4 => ?_) (fun q4 => ?_)
  · have h := h.1 q4
    refine V_iload_n C 2 dX12_as_11 rfl ?_
    refine V_iconst (v := (0 : Int32)) C dX12_as_12 (by decide) ?_
    refine V_iconst (v := (4 : Int32)) C dX12_as_13 (by decide) ?_
    refine V_callSi (rest := []) C (c_X12_within l D cy ad A G x2 (0 : Int32) (4 : Int32) M2 _ h) (va_cwS 3 C.1.2.2.2.2 gX12_as_X12_within rfl rfl rfl (by decide +kernel) ⟨by decide, by decide⟩) rfl rfl (Nat.le_of_ble_eq_true rfl) dX12_as_14 (fun r5 M6 h => ?_)
    obtain ⟨z7, h⟩ := h
    refine V_if_ne C 23 dX12_as_17 (by decide) (fun q8 => ?_) (fun q8 => ?_)
    · have h := h.1 q8
      refine V_aload_n C 0 dX12_as_23 rfl ?_
      refine V_get (k0 := 7) (Cn := RX12) (T := TX12) (N := 49) C (nsM_mem (by decide)) rfl iw_X12_as_X12 (by decide) rfl m_X12_as_f19 (ceM_0 _) rfl dX12_as_24 ?_
      refine V_iload_n C 1 dX12_as_27 rfl ?_
      have g9 := h.1
      have h := h.2
      refine V_iald (t0 := 1) (L := 5) C (nsM_mem (by decide)) (fun _ => rfl) rfl g9 dX12_as_28 ?_
      refine V_istore_n (lv' := [(3, .int (M6.1 4 x1.toNatClampNeg)), (0, .ref (ad 0)), (1, .int x1), (2, .int x2)]) C dX12_as_29 rfl (by decide) rfl ?_
      refine V_iload_n C 3 dX12_as_30 rfl ?_
      refine V_if_eq C 49 dX12_as_31 (by decide) (fun q10 => ?_) (fun q10 => ?_)
      · have h := h.1 q10
        refine V_iload_n C 2 dX12_as_49 rfl ?_
        refine V_goto C 54 dX12_as_50 (by decide) ?_
        exact V_iret C hr hlk dX12_as_54 h
      · have h := h.2 q10
        refine V_iload_n C 0 dX12_as_34 rfl ?_
        refine V_iload_n C 3 dX12_as_35 rfl ?_
        refine V_icmp_eq C 49 dX12_as_36 (by decide) (fun q11 => ?_) (fun q11 => ?_)
        · have h := h.1 q11
          refine V_iload_n C 2 dX12_as_49 rfl ?_
          refine V_goto C 54 dX12_as_50 (by decide) ?_
          exact V_iret C hr hlk dX12_as_54 h
        · have h := h.2 q11
          refine V_iload_n C 3 dX12_as_39 rfl ?_
          refine V_iconst (v := (2 : Int32)) C dX12_as_40 (by decide) ?_
          refine V_icmp_ne C 53 dX12_as_41 (by decide) (fun q12 => ?_) (fun q12 => ?_)
          · have h := h.1 q12
            refine V_iconst (v := (-1 : Int32)) C dX12_as_53 (by decide) ?_
            exact V_iret C hr hlk dX12_as_54 h
          · have h := h.2 q12
            refine V_iload_n C 0 dX12_as_44 rfl ?_
            refine V_iconst (v := (4 : Int32)) C dX12_as_45 (by decide) ?_
            refine V_icmp_ne C 53 dX12_as_46 (by decide) (fun q13 => ?_) (fun q13 => ?_)
            · have h := h.1 q13
              refine V_iconst (v := (-1 : Int32)) C dX12_as_53 (by decide) ?_
              exact V_iret C hr hlk dX12_as_54 h
            · have h := h.2 q13
              refine V_iload_n C 2 dX12_as_49 rfl ?_
              refine V_goto C 54 dX12_as_50 (by decide) ?_
              exact V_iret C hr hlk dX12_as_54 h
    · have h := h.2 q8
      refine V_bipush (v := (-102 : Int32)) C dX12_as_20 (by decide) ?_
      exact V_iret C hr hlk dX12_as_22 h
  · have h := h.2 q4
    refine V_bipush (v := (-101 : Int32)) C dX12_as_8 (by decide) ?_
    exact V_iret C hr hlk dX12_as_10 h
def w_X12_passageNow (x1 : Int32) (x2 : Int32) (M : Mm) (post : Int32 → Mm → Prop) : Prop :=
  ((¬ x2 = 0) → (((¬ x2 = (1 : Int32)) → ((vp_in x1 7) ∧ (post (M.1 3 x1.toNatClampNeg) M))) ∧ ((x2 = (1 : Int32)) → ((vp_in x1 7) ∧ (post (M.1 2 x1.toNatClampNeg) M))))) ∧ ((x2 = 0) → ((vp_in x1 7) ∧ (post (M.1 1 x1.toNatClampNeg) M)))
theorem iw_X12_passageNow_X12 : ∀ w ∈ u_ws RX12 TX12 49, w ∈ wsX12_passageNow := by decide +kernel
theorem m_X12_passageNow_f16 : Cond.fieldLink RX12 16 "ShameYardsModel" "lengthOf" "[I" ∈ wsX12_passageNow := by decide +kernel
theorem m_X12_passageNow_f13 : Cond.fieldLink RX12 13 "ShameYardsModel" "otherEnd" "[I" ∈ wsX12_passageNow := by decide +kernel
theorem m_X12_passageNow_f7 : Cond.fieldLink RX12 7 "ShameYardsModel" "oneEnd" "[I" ∈ wsX12_passageNow := by decide +kernel
set_option maxHeartbeats 4000000 in
set_option maxRecDepth 100000 in
theorem c_X12_passageNow (l : Launch) (D : va_G) (cy : Nat → ClassId) (ad : Nat → Nat) (A : Nat → Prop) (G : Gd A ad nsM)   (x1 : Int32) (x2 : Int32) (M : Mm) (post : Int32 → Mm → Prop) (h : w_X12_passageNow x1 x2 M post) : CI l yX12_passageNow wsX12_passageNow (rmL 2) D (tysC cy) A ad nsM (ceM ad cy) ExM [.ref (ad 0), .int x1, .int x2] M post := by
  refine Met_V (cc := cX12_passageNow) (maxL := 3) (ret := (some .int)) (by decide) rfl G Lo_M ExM_ok (Nat.le_of_ble_eq_true rfl) rfl ?_
  intro p e s m args below meth c C hr hlk
  have C : Cx p s m args c cX12_passageNow 3 RX12 wsX12_passageNow D (tysC cy) A ad nsM (ceM ad cy) ExM := C
  unfold w_X12_passageNow at h
  refine V_iload_n C 2 dX12_passageNow_0 rfl ?_
  refine V_if_ne C 13 dX12_passageNow_1 (by decide) (fun q1 => ?_) (fun q1 => ?_)
  · have h := h.1 q1
    refine V_iload_n C 2 dX12_passageNow_13 rfl ?_
    refine V_iconst (v := (1 : Int32)) C dX12_passageNow_14 (by decide) ?_
    refine V_icmp_ne C 27 dX12_passageNow_15 (by decide) (fun q2 => ?_) (fun q2 => ?_)
    · have h := h.1 q2
      refine V_aload_n C 0 dX12_passageNow_27 rfl ?_
      refine V_get (k0 := 6) (Cn := RX12) (T := TX12) (N := 49) C (nsM_mem (by decide)) rfl iw_X12_passageNow_X12 (by decide) rfl m_X12_passageNow_f16 (ceM_0 _) rfl dX12_passageNow_28 ?_
      refine V_iload_n C 1 dX12_passageNow_31 rfl ?_
      have g3 := h.1
      have h := h.2
      refine V_iald (t0 := 1) (L := 7) C (nsM_mem (by decide)) (fun _ => rfl) rfl g3 dX12_passageNow_32 ?_
      exact V_iret C hr hlk dX12_passageNow_33 h
    · have h := h.2 q2
      refine V_aload_n C 0 dX12_passageNow_18 rfl ?_
      refine V_get (k0 := 5) (Cn := RX12) (T := TX12) (N := 49) C (nsM_mem (by decide)) rfl iw_X12_passageNow_X12 (by decide) rfl m_X12_passageNow_f13 (ceM_0 _) rfl dX12_passageNow_19 ?_
      refine V_iload_n C 1 dX12_passageNow_22 rfl ?_
      have g4 := h.1
      have h := h.2
      refine V_iald (t0 := 1) (L := 7) C (nsM_mem (by decide)) (fun _ => rfl) rfl g4 dX12_passageNow_23 ?_
      refine V_goto C 33 dX12_passageNow_24 (by decide) ?_
      exact V_iret C hr hlk dX12_passageNow_33 h
  · have h := h.2 q1
    refine V_aload_n C 0 dX12_passageNow_4 rfl ?_
    refine V_get (k0 := 4) (Cn := RX12) (T := TX12) (N := 49) C (nsM_mem (by decide)) rfl iw_X12_passageNow_X12 (by decide) rfl m_X12_passageNow_f7 (ceM_0 _) rfl dX12_passageNow_5 ?_
    refine V_iload_n C 1 dX12_passageNow_8 rfl ?_
    have g5 := h.1
    have h := h.2
    refine V_iald (t0 := 1) (L := 7) C (nsM_mem (by decide)) (fun _ => rfl) rfl g5 dX12_passageNow_9 ?_
    refine V_goto C 33 dX12_passageNow_10 (by decide) ?_
    exact V_iret C hr hlk dX12_passageNow_33 h
def w_X12_passage (x1 : Int32) (x2 : Int32) (M : Mm) (post : Int32 → Mm → Prop) : Prop :=
  w_X12_isPassage x1 M (fun r1 M2 => ((¬ r1 = 0) → (w_X12_within x2 (0 : Int32) (2 : Int32) M2 (fun r5 M6 => ((r5 = 0) → (post (-102 : Int32) M6)) ∧ ((¬ r5 = 0) → (w_X12_passageNow x1 x2 M6 (fun r9 M10 => post r9 M10)))))) ∧ ((r1 = 0) → (post (-101 : Int32) M2)))
set_option maxHeartbeats 4000000 in
set_option maxRecDepth 100000 in
theorem c_X12_passage (l : Launch) (D : va_G) (cy : Nat → ClassId) (ad : Nat → Nat) (A : Nat → Prop) (G : Gd A ad nsM)   (x1 : Int32) (x2 : Int32) (M : Mm) (post : Int32 → Mm → Prop) (h : w_X12_passage x1 x2 M post) : CI l yX12_passage wsX12_passage (rmL 4) D (tysC cy) A ad nsM (ceM ad cy) ExM [.ref (ad 0), .int x1, .int x2] M post := by
  refine Met_V (cc := cX12_passage) (maxL := 3) (ret := (some .int)) (by decide) rfl G Lo_M ExM_ok (Nat.le_of_ble_eq_true rfl) rfl ?_
  intro p e s m args below meth c C hr hlk
  have C : Cx p s m args c cX12_passage 3 RX12 wsX12_passage D (tysC cy) A ad nsM (ceM ad cy) ExM := C
  unfold w_X12_passage at h
  refine V_aload_n C 0 dX12_passage_0 rfl ?_
  refine V_iload_n C 1 dX12_passage_1 rfl ?_
  refine V_callVi (q := (RX12, TX12, 49)) (rest := []) C (nsM_mem (by decide)) (ceM_0 _) rfl (c_X12_isPassage l D cy ad A G x1 M _ h) (cwV 1 C.1.2.2.2.2 gX12_passage_X12_isPassage rfl rfl rfl (by decide +kernel) ⟨by decide, by decide⟩) rfl rfl (Nat.le_of_ble_eq_true rfl) dX12_passage_2 (fun r1 M2 h => ?_)
  obtain ⟨z3, h⟩ := h
  refine V_if_ne C 13 dX12_passage_5 (by decide) (fun q4 => ?_) (fun q4 => ?_)
  · have h := h.1 q4
    refine V_iload_n C 2 dX12_passage_13 rfl ?_
    refine V_iconst (v := (0 : Int32)) C dX12_passage_14 (by decide) ?_
    refine V_iconst (v := (2 : Int32)) C dX12_passage_15 (by decide) ?_
    refine V_callSi (rest := []) C (c_X12_within l D cy ad A G x2 (0 : Int32) (2 : Int32) M2 _ h) (va_cwS 3 C.1.2.2.2.2 gX12_passage_X12_within rfl rfl rfl (by decide +kernel) ⟨by decide, by decide⟩) rfl rfl (Nat.le_of_ble_eq_true rfl) dX12_passage_16 (fun r5 M6 h => ?_)
    obtain ⟨z7, h⟩ := h
    refine V_if_eq C 31 dX12_passage_19 (by decide) (fun q8 => ?_) (fun q8 => ?_)
    · have h := h.1 q8
      refine V_bipush (v := (-102 : Int32)) C dX12_passage_31 (by decide) ?_
      exact V_iret C hr hlk dX12_passage_33 h
    · have h := h.2 q8
      refine V_aload_n C 0 dX12_passage_22 rfl ?_
      refine V_iload_n C 1 dX12_passage_23 rfl ?_
      refine V_iload_n C 2 dX12_passage_24 rfl ?_
      refine V_callVi (q := (RX12, TX12, 49)) (rest := []) C (nsM_mem (by decide)) (ceM_0 _) rfl (c_X12_passageNow l D cy ad A G x1 x2 M6 _ h) (cwV 2 C.1.2.2.2.2 gX12_passage_X12_passageNow rfl rfl rfl (by decide +kernel) ⟨by decide, by decide⟩) rfl rfl (Nat.le_of_ble_eq_true rfl) dX12_passage_25 (fun r9 M10 h => ?_)
      refine V_goto C 33 dX12_passage_28 (by decide) ?_
      exact V_iret C hr hlk dX12_passage_33 h
  · have h := h.2 q4
    refine V_bipush (v := (-101 : Int32)) C dX12_passage_8 (by decide) ?_
    refine V_goto C 33 dX12_passage_10 (by decide) ?_
    exact V_iret C hr hlk dX12_passage_33 h
def w_X12_steps_30  (post : Int32 → Mm → Prop)  (v1 : Int32) (v2 : Int32) (v3 : Int32) (s0 : Int32) (M : Mm) : Prop :=
    ((s0 = 0) → (post (-101 : Int32) M)) ∧ ((¬ s0 = 0) → (w_X12_stepsOf v1 v2 v3 M (fun r2 M3 => post r2 M3)))
def w_X12_steps_29  (post : Int32 → Mm → Prop)  (v1 : Int32) (v2 : Int32) (v3 : Int32) (M : Mm) : Prop :=
    w_X12_steps_30  post  v1 v2 v3 (0 : Int32) M
def w_X12_steps (x1 : Int32) (x2 : Int32) (x3 : Int32) (M : Mm) (post : Int32 → Mm → Prop) : Prop :=
  w_X12_isPerson x1 M (fun r5 M6 => ((r5 = 0) → (w_X12_steps_29  post  x1 x2 x3 M6)) ∧ ((¬ r5 = 0) → (w_X12_isPassage x2 M6 (fun r9 M10 => ((r9 = 0) → (w_X12_steps_29  post  x1 x2 x3 M10)) ∧ ((¬ r9 = 0) → (w_X12_isWith x1 x3 M10 (fun r13 M14 => ((r13 = 0) → (w_X12_steps_29  post  x1 x2 x3 M14)) ∧ ((¬ r13 = 0) → (w_X12_steps_30  post  x1 x2 x3 (1 : Int32) M14)))))))))
set_option maxHeartbeats 4000000 in
set_option maxRecDepth 100000 in
theorem c_X12_steps (l : Launch) (D : va_G) (cy : Nat → ClassId) (ad : Nat → Nat) (A : Nat → Prop) (G : Gd A ad nsM)   (x1 : Int32) (x2 : Int32) (x3 : Int32) (M : Mm) (post : Int32 → Mm → Prop) (h : w_X12_steps x1 x2 x3 M post) : CI l yX12_steps wsX12_steps (rmL 5) D (tysC cy) A ad nsM (ceM ad cy) ExM [.ref (ad 0), .int x1, .int x2, .int x3] M post := by
  refine Met_V (cc := cX12_steps) (maxL := 5) (ret := (some .int)) (by decide) rfl G Lo_M ExM_ok (Nat.le_of_ble_eq_true rfl) rfl ?_
  intro p e s m args below meth c C hr hlk
  have C : Cx p s m args c cX12_steps 5 RX12 wsX12_steps D (tysC cy) A ad nsM (ceM ad cy) ExM := C
  have L30 : ∀  (v1 : Int32) (v2 : Int32) (v3 : Int32) (s0 : Int32) (M : Mm), w_X12_steps_30  post  v1 v2 v3 s0 M → (s0 = 0 ∨ s0 = 1) → V p l e (rmL 5) s m args below meth c (MQ below (va_Qi post (Wd D (tysC cy) ad nsM (ceM ad cy) ExM) A) args s 0 0 A) D A ad nsM (ceM ad cy) 5 M [(0, .ref (ad 0)), (1, .int v1), (2, .int v2), (3, .int v3)] 30 [.int s0] := by
    intro  v1 v2 v3 s0 M h zs0
    unfold w_X12_steps_30 at h
    refine V_istore (lv' := [(4, .int s0), (0, .ref (ad 0)), (1, .int v1), (2, .int v2), (3, .int v3)]) C dX12_steps_30 (by decide) rfl ?_
    refine V_iload C 0 dX12_steps_32 rfl ?_
    refine V_if_eq C 47 dX12_steps_34 (by decide) (fun q1 => ?_) (fun q1 => ?_)
    · have h := h.1 q1
      refine V_bipush (v := (-101 : Int32)) C dX12_steps_47 (by decide) ?_
      exact V_iret C hr hlk dX12_steps_49 h
    · have h := h.2 q1
      refine V_aload_n C 1 dX12_steps_37 rfl ?_
      refine V_iload_n C 2 dX12_steps_38 rfl ?_
      refine V_iload_n C 3 dX12_steps_39 rfl ?_
      refine V_iload_n C 4 dX12_steps_40 rfl ?_
      refine V_callVi (q := (RX12, TX12, 49)) (rest := []) C (nsM_mem (by decide)) (ceM_0 _) rfl (c_X12_stepsOf l D cy ad A G v1 v2 v3 M _ h) (cwV 3 C.1.2.2.2.2 gX12_steps_X12_stepsOf rfl rfl rfl (by decide +kernel) ⟨by decide, by decide⟩) rfl rfl (Nat.le_of_ble_eq_true rfl) dX12_steps_41 (fun r2 M3 h => ?_)
      refine V_goto C 49 dX12_steps_44 (by decide) ?_
      exact V_iret C hr hlk dX12_steps_49 h
  have L29 : ∀  (v1 : Int32) (v2 : Int32) (v3 : Int32) (M : Mm), w_X12_steps_29  post  v1 v2 v3 M → V p l e (rmL 5) s m args below meth c (MQ below (va_Qi post (Wd D (tysC cy) ad nsM (ceM ad cy) ExM) A) args s 0 0 A) D A ad nsM (ceM ad cy) 5 M [(0, .ref (ad 0)), (1, .int v1), (2, .int v2), (3, .int v3)] 29 [] := by
    intro  v1 v2 v3 M h 
    unfold w_X12_steps_29 at h
    refine V_iconst (v := (0 : Int32)) C dX12_steps_29 (by decide) ?_
    refine V_drop (lv' := [(0, .ref (ad 0)), (1, .int v1), (2, .int v2), (3, .int v3)]) [0, 1, 2, 3] rfl ?_
    exact L30  v1 v2 v3 (0 : Int32) M h (Or.inl rfl)
  unfold w_X12_steps at h
  refine V_aload_n C 0 dX12_steps_0 rfl ?_
  refine V_iload_n C 1 dX12_steps_1 rfl ?_
  refine V_callVi (q := (RX12, TX12, 49)) (rest := []) C (nsM_mem (by decide)) (ceM_0 _) rfl (c_X12_isPerson l D cy ad A G x1 M _ h) (cwV 1 C.1.2.2.2.2 gX12_steps_X12_isPerson rfl rfl rfl (by decide +kernel) ⟨by decide, by decide⟩) rfl rfl (Nat.le_of_ble_eq_true rfl) dX12_steps_2 (fun r5 M6 h => ?_)
  obtain ⟨z7, h⟩ := h
  refine V_if_eq C 29 dX12_steps_5 (by decide) (fun q8 => ?_) (fun q8 => ?_)
  · have h := h.1 q8
    refine V_drop (lv' := [(0, .ref (ad 0)), (1, .int x1), (2, .int x2), (3, .int x3)]) [0, 1, 2, 3] rfl ?_
    exact L29  x1 x2 x3 M6 h 
  · have h := h.2 q8
    refine V_aload_n C 0 dX12_steps_8 rfl ?_
    refine V_iload_n C 2 dX12_steps_9 rfl ?_
    refine V_callVi (q := (RX12, TX12, 49)) (rest := []) C (nsM_mem (by decide)) (ceM_0 _) rfl (c_X12_isPassage l D cy ad A G x2 M6 _ h) (cwV 1 C.1.2.2.2.2 gX12_steps_X12_isPassage rfl rfl rfl (by decide +kernel) ⟨by decide, by decide⟩) rfl rfl (Nat.le_of_ble_eq_true rfl) dX12_steps_10 (fun r9 M10 h => ?_)
    obtain ⟨z11, h⟩ := h
    refine V_if_eq C 29 dX12_steps_13 (by decide) (fun q12 => ?_) (fun q12 => ?_)
    · have h := h.1 q12
      refine V_drop (lv' := [(0, .ref (ad 0)), (1, .int x1), (2, .int x2), (3, .int x3)]) [0, 1, 2, 3] rfl ?_
      exact L29  x1 x2 x3 M10 h 
    · have h := h.2 q12
      refine V_aload_n C 0 dX12_steps_16 rfl ?_
      refine V_iload_n C 1 dX12_steps_17 rfl ?_
      refine V_iload_n C 3 dX12_steps_18 rfl ?_
      refine V_callVi (q := (RX12, TX12, 49)) (rest := []) C (nsM_mem (by decide)) (ceM_0 _) rfl (c_X12_isWith l D cy ad A G x1 x3 M10 _ h) (cwV 2 C.1.2.2.2.2 gX12_steps_X12_isWith rfl rfl rfl (by decide +kernel) ⟨by decide, by decide⟩) rfl rfl (Nat.le_of_ble_eq_true rfl) dX12_steps_19 (fun r13 M14 h => ?_)
      obtain ⟨z15, h⟩ := h
      refine V_if_eq C 29 dX12_steps_22 (by decide) (fun q16 => ?_) (fun q16 => ?_)
      · have h := h.1 q16
        refine V_drop (lv' := [(0, .ref (ad 0)), (1, .int x1), (2, .int x2), (3, .int x3)]) [0, 1, 2, 3] rfl ?_
        exact L29  x1 x2 x3 M14 h 
      · have h := h.2 q16
        refine V_iconst (v := (1 : Int32)) C dX12_steps_25 (by decide) ?_
        refine V_goto C 30 dX12_steps_26 (by decide) ?_
        refine V_drop (lv' := [(0, .ref (ad 0)), (1, .int x1), (2, .int x2), (3, .int x3)]) [0, 1, 2, 3] rfl ?_
        exact L30  x1 x2 x3 (1 : Int32) M14 h (Or.inr rfl)
