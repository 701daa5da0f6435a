def w_X12_draw (x1 : Int32) (M : Mm) (post : Int32 → Mm → Prop) : Prop :=
  ∀ M1 : Mm, M1 = wJ M 0 (vp_updL (M.2 0) 32 ((((1103515245 : Int64) * (M.2 0 32)) + (12345 : Int64)) &&& (2147483647 : Int64))) → ((¬ (x1.toInt64) = 0) ∧ (post ((((M1.2 0 32) / (65536 : Int64)) - ((M1.2 0 32) / (65536 : Int64)) / (x1.toInt64) * (x1.toInt64)).toInt32) M1))
theorem iw_X12_draw_X12 : ∀ w ∈ u_ws RX12 TX12 49, w ∈ wsX12_draw := by decide +kernel
theorem m_X12_draw_c285 : Jvm.Cond.constantLong RX12 285 (1103515245) ∈ wsX12_draw := by decide +kernel
theorem m_X12_draw_f287 : Cond.fieldLink RX12 287 "ShameYardsModel" "seedNow" "J" ∈ wsX12_draw := by decide +kernel
theorem m_X12_draw_c291 : Jvm.Cond.constantLong RX12 291 (12345) ∈ wsX12_draw := by decide +kernel
theorem m_X12_draw_c293 : Jvm.Cond.constantLong RX12 293 (2147483647) ∈ wsX12_draw := by decide +kernel
theorem m_X12_draw_c295 : Jvm.Cond.constantLong RX12 295 (65536) ∈ wsX12_draw := by decide +kernel
set_option maxHeartbeats 4000000 in
set_option maxRecDepth 100000 in
theorem c_X12_draw (l : Launch) (D : va_G) (cy : Nat → ClassId) (ad : Nat → Nat) (A : Nat → Prop) (G : Gd A ad nsM)   (x1 : Int32) (M : Mm) (post : Int32 → Mm → Prop) (h : w_X12_draw x1 M post) : CI l yX12_draw wsX12_draw (rmL 2) D (tysC cy) A ad nsM (ceM ad cy) ExM [.ref (ad 0), .int x1] M post := by
  refine Met_V (cc := cX12_draw) (maxL := 2) (ret := (some .int)) (by decide) rfl G Lo_M ExM_ok (Nat.le_of_ble_eq_true rfl) rfl ?_
  intro p e s m args below meth c C hr hlk
  have C : Cx p s m args c cX12_draw 2 RX12 wsX12_draw D (tysC cy) A ad nsM (ceM ad cy) ExM := C
  unfold w_X12_draw at h
  refine V_aload_n C 0 dX12_draw_0 rfl ?_
  refine V_ldc2 (v := (1103515245 : Int64)) C dX12_draw_1 m_X12_draw_c285 ?_
  refine V_aload_n C 0 dX12_draw_4 rfl ?_
  refine V_get (k0 := 32) (Cn := RX12) (T := TX12) (N := 49) C (nsM_mem (by decide)) rfl iw_X12_draw_X12 (by decide) rfl m_X12_draw_f287 (ceM_0 _) rfl dX12_draw_5 ?_
  refine V_lmul C dX12_draw_8 ?_
  refine V_ldc2 (v := (12345 : Int64)) C dX12_draw_9 m_X12_draw_c291 ?_
  refine V_ladd C dX12_draw_12 ?_
  refine V_ldc2 (v := (2147483647 : Int64)) C dX12_draw_13 m_X12_draw_c293 ?_
  refine V_land C dX12_draw_16 ?_
  refine V_putJ (k0 := 32) (Cn := RX12) (T := TX12) (N := 49) C (nsM_mem (by decide)) rfl iw_X12_draw_X12 (by decide) rfl m_X12_draw_f287 tyX12_ok nmX12 rfl (show _ = some FieldType.long by decide +kernel) rfl rfl (Nat.le_of_ble_eq_true rfl) (ceM_0 _) (stM0_32  _ _) dX12_draw_17 (fun M1 e2 => ?_)
  have h := h M1 e2
  refine V_aload_n C 0 dX12_draw_20 rfl ?_
  refine V_get (k0 := 32) (Cn := RX12) (T := TX12) (N := 49) C (nsM_mem (by decide)) rfl iw_X12_draw_X12 (by decide) rfl m_X12_draw_f287 (ceM_0 _) rfl dX12_draw_21 ?_
  refine V_ldc2 (v := (65536 : Int64)) C dX12_draw_24 m_X12_draw_c295 ?_
  refine V_ldiv C dX12_draw_27 (by decide) ?_
  refine V_iload_n C 1 dX12_draw_28 rfl ?_
  refine V_i2l C dX12_draw_29 ?_
  have g3 := h.1
  have h := h.2
  refine V_lrem C dX12_draw_30 g3 ?_
  refine V_l2i C dX12_draw_31 ?_
  exact V_iret C hr hlk dX12_draw_32 h
def w_X12_passageAt_19  (post : Int32 → Mm → Prop) (k5 : Int32 → Int32 → Int32 → Mm → Prop) (v1 : Int32) (v3 : Int32) (v4 : Int32) (M : Mm) : Prop :=
    w_X12_endsAt v4 v1 M (fun r1 M2 => ((r1 = 0) → (k5 v1 (v3 - (0 : Int32)) (v4 + 1) M2)) ∧ ((¬ r1 = 0) → (k5 v1 (v3 - (1 : Int32)) (v4 + 1) M2)))
def w_X12_passageAt_5  (post : Int32 → Mm → Prop)  : Nat → Int32 → Int32 → Int32 → Mm → Prop
  | 0 => fun _ _ _ _ => False
  | n + 1 => fun v1 v3 v4 M =>
    w_X12_endsAt v4 v1 M (fun r5 M6 => ((r5 = 0) → (w_X12_passageAt_19  post (w_X12_passageAt_5  post  n) v1 v3 v4 M6)) ∧ ((¬ r5 = 0) → (((v3 ≤ 0) → (post v4 M6)) ∧ ((¬ v3 ≤ 0) → (w_X12_passageAt_19  post (w_X12_passageAt_5  post  n) v1 v3 v4 M6)))))
def w_X12_passageAt (x1 : Int32) (x2 : Int32) (M : Mm) (post : Int32 → Mm → Prop) : Prop :=
  ∃ n0 : Nat, w_X12_passageAt_5  post  n0 x1 x2 (0 : Int32) M
set_option maxHeartbeats 4000000 in
set_option maxRecDepth 100000 in
theorem c_X12_passageAt (l : Launch) (D : va_G) (cy : Nat → ClassId) (ad : Nat → Nat) (A : Nat → Prop) (G : Gd A ad nsM)   (x1 : Int32) (x2 : Int32) (M : Mm) (post : Int32 → Mm → Prop) (h : w_X12_passageAt x1 x2 M post) : CI l yX12_passageAt wsX12_passageAt (rmL 3) D (tysC cy) A ad nsM (ceM ad cy) ExM [.ref (ad 0), .int x1, .int x2] M post := by
  refine Met_V (cc := cX12_passageAt) (maxL := 5) (ret := (some .int)) (by decide) rfl G Lo_M ExM_ok (Nat.le_of_ble_eq_true rfl) rfl ?_
  intro p e s m args below meth c C hr hlk
  have C : Cx p s m args c cX12_passageAt 5 RX12 wsX12_passageAt D (tysC cy) A ad nsM (ceM ad cy) ExM := C
  have L19 : ∀ (k5 : Int32 → Int32 → Int32 → Mm → Prop) (hk5 : ∀ (v1 : Int32) (v3 : Int32) (v4 : Int32) (M : Mm), k5 v1 v3 v4 M → V p l e (rmL 3) s m args below meth c (MQ below (va_Qi post (Wd D (tysC cy) ad nsM (ceM ad cy) ExM) A) args s 0 0 A) D A ad nsM (ceM ad cy) 5 M [(0, .ref (ad 0)), (1, .int v1), (3, .int v3), (4, .int v4)] 5 []) (v1 : Int32) (v3 : Int32) (v4 : Int32) (M : Mm), w_X12_passageAt_19  post k5 v1 v3 v4 M → V p l e (rmL 3) s m args below meth c (MQ below (va_Qi post (Wd D (tysC cy) ad nsM (ceM ad cy) ExM) A) args s 0 0 A) D A ad nsM (ceM ad cy) 5 M [(0, .ref (ad 0)), (1, .int v1), (3, .int v3), (4, .int v4)] 19 [] := by
    intro k5 hk5 v1 v3 v4 M h 
    unfold w_X12_passageAt_19 at h
    refine V_iload_n C 2 dX12_passageAt_19 rfl ?_
    refine V_aload_n C 0 dX12_passageAt_20 rfl ?_
    refine V_iload C 3 dX12_passageAt_21 rfl ?_
    refine V_iload_n C 1 dX12_passageAt_23 rfl ?_
    refine V_callVi (q := (RX12, TX12, 49)) (rest := [.int v3]) C (nsM_mem (by decide)) (ceM_0 _) rfl (c_X12_endsAt l D cy ad A G v4 v1 M _ h) (cwV 2 C.1.2.2.2.2 gX12_passageAt_X12_endsAt rfl rfl rfl (by decide +kernel) ⟨by decide, by decide⟩) rfl rfl (Nat.le_of_ble_eq_true rfl) dX12_passageAt_24 (fun r1 M2 h => ?_)
    obtain ⟨z3, h⟩ := h
    refine V_if_eq C 34 dX12_passageAt_27 (by decide) (fun q4 => ?_) (fun q4 => ?_)
    · have h := h.1 q4
      refine V_iconst (v := (0 : Int32)) C dX12_passageAt_34 (by decide) ?_
      refine V_isub C dX12_passageAt_35 ?_
      refine V_istore_n (lv' := [(3, .int (v3 - (0 : Int32))), (0, .ref (ad 0)), (1, .int v1), (4, .int v4)]) C dX12_passageAt_36 rfl (by decide) rfl ?_
      refine V_iinc (v := (v4 + 1)) (lv' := [(4, .int (v4 + 1)), (3, .int (v3 - (0 : Int32))), (0, .ref (ad 0)), (1, .int v1)]) C 3 dX12_passageAt_37 rfl rfl (by decide) rfl ?_
      refine V_goto C 5 dX12_passageAt_40 (by decide) ?_
      refine V_drop (lv' := [(0, .ref (ad 0)), (1, .int v1), (3, .int (v3 - (0 : Int32))), (4, .int (v4 + 1))]) [2, 3, 1, 0] rfl ?_
      exact hk5 v1 (v3 - (0 : Int32)) (v4 + 1) M2 h 
    · have h := h.2 q4
      refine V_iconst (v := (1 : Int32)) C dX12_passageAt_30 (by decide) ?_
      refine V_goto C 35 dX12_passageAt_31 (by decide) ?_
      refine V_isub C dX12_passageAt_35 ?_
      refine V_istore_n (lv' := [(3, .int (v3 - (1 : Int32))), (0, .ref (ad 0)), (1, .int v1), (4, .int v4)]) C dX12_passageAt_36 rfl (by decide) rfl ?_
      refine V_iinc (v := (v4 + 1)) (lv' := [(4, .int (v4 + 1)), (3, .int (v3 - (1 : Int32))), (0, .ref (ad 0)), (1, .int v1)]) C 3 dX12_passageAt_37 rfl rfl (by decide) rfl ?_
      refine V_goto C 5 dX12_passageAt_40 (by decide) ?_
      refine V_drop (lv' := [(0, .ref (ad 0)), (1, .int v1), (3, .int (v3 - (1 : Int32))), (4, .int (v4 + 1))]) [2, 3, 1, 0] rfl ?_
      exact hk5 v1 (v3 - (1 : Int32)) (v4 + 1) M2 h 
  have L5 : ∀  (n : Nat) (v1 : Int32) (v3 : Int32) (v4 : Int32) (M : Mm), w_X12_passageAt_5  post  n v1 v3 v4 M → V p l e (rmL 3) s m args below meth c (MQ below (va_Qi post (Wd D (tysC cy) ad nsM (ceM ad cy) ExM) A) args s 0 0 A) D A ad nsM (ceM ad cy) 5 M [(0, .ref (ad 0)), (1, .int v1), (3, .int v3), (4, .int v4)] 5 [] := by
    intro  n
    induction n with
    | zero => intro v1 v3 v4 M h; exact h.elim
    | succ n ih =>
    intro v1 v3 v4 M h 
    unfold w_X12_passageAt_5 at h
    refine V_aload_n C 0 dX12_passageAt_5 rfl ?_
    refine V_iload C 3 dX12_passageAt_6 rfl ?_
    refine V_iload_n C 1 dX12_passageAt_8 rfl ?_
    refine V_callVi (q := (RX12, TX12, 49)) (rest := []) C (nsM_mem (by decide)) (ceM_0 _) rfl (c_X12_endsAt l D cy ad A G v4 v1 M _ h) (cwV 2 C.1.2.2.2.2 gX12_passageAt_X12_endsAt rfl rfl rfl (by decide +kernel) ⟨by decide, by decide⟩) rfl rfl (Nat.le_of_ble_eq_true rfl) dX12_passageAt_9 (fun r5 M6 h => ?_)
    obtain ⟨z7, h⟩ := h
    refine V_if_eq C 19 dX12_passageAt_12 (by decide) (fun q8 => ?_) (fun q8 => ?_)
    · have h := h.1 q8
      refine V_drop (lv' := [(0, .ref (ad 0)), (1, .int v1), (3, .int v3), (4, .int v4)]) [0, 1, 2, 3] rfl ?_
      exact L19 (w_X12_passageAt_5  post  n) ih v1 v3 v4 M6 h 
    · have h := h.2 q8
      refine V_iload_n C 2 dX12_passageAt_15 rfl ?_
      refine V_if_le C 43 dX12_passageAt_16 (by decide) (fun q9 => ?_) (fun q9 => ?_)
      · have h := h.1 q9
        refine V_iload C 3 dX12_passageAt_43 rfl ?_
        exact V_iret C hr hlk dX12_passageAt_45 h
      · have h := h.2 q9
        refine V_drop (lv' := [(0, .ref (ad 0)), (1, .int v1), (3, .int v3), (4, .int v4)]) [0, 1, 2, 3] rfl ?_
        exact L19 (w_X12_passageAt_5  post  n) ih v1 v3 v4 M6 h 
  unfold w_X12_passageAt at h
  refine V_iload_n C 2 dX12_passageAt_0 rfl ?_
  refine V_istore_n (lv' := [(3, .int x2), (0, .ref (ad 0)), (1, .int x1), (2, .int x2)]) C dX12_passageAt_1 rfl (by decide) rfl ?_
  refine V_iconst (v := (0 : Int32)) C dX12_passageAt_2 (by decide) ?_
  refine V_istore (lv' := [(4, .int (0 : Int32)), (3, .int x2), (0, .ref (ad 0)), (1, .int x1), (2, .int x2)]) C dX12_passageAt_3 (by decide) rfl ?_
  refine V_drop (lv' := [(0, .ref (ad 0)), (1, .int x1), (3, .int x2), (4, .int (0 : Int32))]) [2, 3, 1, 0] rfl ?_
  obtain ⟨n0, h⟩ := h
  exact L5  n0 x1 x2 (0 : Int32) M h 
def w_X12_inRoom_4  (post : Int32 → Mm → Prop)  : Nat → Int32 → Int32 → Int32 → Mm → Prop
  | 0 => fun _ _ _ _ => False
  | n + 1 => fun v1 v2 v3 M =>
    (((M.1 0 3) ≤ v3) → (post v2 M)) ∧ ((¬ (M.1 0 3) ≤ v3) → ((vp_in v3 5) ∧ (((¬ (M.1 7 v3.toNatClampNeg) = v1) → (w_X12_inRoom_4  post  n v1 (v2 + (0 : Int32)) (v3 + 1) M)) ∧ (((M.1 7 v3.toNatClampNeg) = v1) → (w_X12_inRoom_4  post  n v1 (v2 + (1 : Int32)) (v3 + 1) M)))))
def w_X12_inRoom (x1 : Int32) (M : Mm) (post : Int32 → Mm → Prop) : Prop :=
  ∃ n0 : Nat, w_X12_inRoom_4  post  n0 x1 (0 : Int32) (0 : Int32) M
theorem iw_X12_inRoom_X12 : ∀ w ∈ u_ws RX12 TX12 49, w ∈ wsX12_inRoom := by decide +kernel
theorem m_X12_inRoom_f156 : Cond.fieldLink RX12 156 "ShameYardsModel" "people" "I" ∈ wsX12_inRoom := by decide +kernel
theorem m_X12_inRoom_f28 : Cond.fieldLink RX12 28 "ShameYardsModel" "roomOf" "[I" ∈ wsX12_inRoom := by decide +kernel
set_option maxHeartbeats 4000000 in
set_option maxRecDepth 100000 in
theorem c_X12_inRoom (l : Launch) (D : va_G) (cy : Nat → ClassId) (ad : Nat → Nat) (A : Nat → Prop) (G : Gd A ad nsM)   (x1 : Int32) (M : Mm) (post : Int32 → Mm → Prop) (h : w_X12_inRoom x1 M post) : CI l yX12_inRoom wsX12_inRoom (rmL 2) D (tysC cy) A ad nsM (ceM ad cy) ExM [.ref (ad 0), .int x1] M post := by
  refine Met_V (cc := cX12_inRoom) (maxL := 4) (ret := (some .int)) (by decide) rfl G Lo_M ExM_ok (Nat.le_of_ble_eq_true rfl) rfl ?_
  intro p e s m args below meth c C hr hlk
  have C : Cx p s m args c cX12_inRoom 4 RX12 wsX12_inRoom D (tysC cy) A ad nsM (ceM ad cy) ExM := C
  have L4 : ∀  (n : Nat) (v1 : Int32) (v2 : Int32) (v3 : Int32) (M : Mm), w_X12_inRoom_4  post  n v1 v2 v3 M → V p l e (rmL 2) s m args below meth c (MQ below (va_Qi post (Wd D (tysC cy) ad nsM (ceM ad cy) ExM) A) args s 0 0 A) D A ad nsM (ceM ad cy) 4 M [(0, .ref (ad 0)), (1, .int v1), (2, .int v2), (3, .int v3)] 4 [] := by
    intro  n
    induction n with
    | zero => intro v1 v2 v3 M h; exact h.elim
    | succ n ih =>
    intro v1 v2 v3 M h 
    unfold w_X12_inRoom_4 at h
    refine V_iload_n C 3 dX12_inRoom_4 rfl ?_
    refine V_aload_n C 0 dX12_inRoom_5 rfl ?_
    refine V_get (k0 := 3) (Cn := RX12) (T := TX12) (N := 49) C (nsM_mem (by decide)) rfl iw_X12_inRoom_X12 (by decide) rfl m_X12_inRoom_f156 (ceM_0 _) rfl dX12_inRoom_6 ?_
    refine V_icmp_ge C 36 dX12_inRoom_9 (by decide) (fun q1 => ?_) (fun q1 => ?_)
    · have h := h.1 q1
      refine V_iload_n C 2 dX12_inRoom_36 rfl ?_
      exact V_iret C hr hlk dX12_inRoom_37 h
    · have h := h.2 q1
      refine V_iload_n C 2 dX12_inRoom_12 rfl ?_
      refine V_aload_n C 0 dX12_inRoom_13 rfl ?_
      refine V_get (k0 := 10) (Cn := RX12) (T := TX12) (N := 49) C (nsM_mem (by decide)) rfl iw_X12_inRoom_X12 (by decide) rfl m_X12_inRoom_f28 (ceM_0 _) rfl dX12_inRoom_14 ?_
      refine V_iload_n C 3 dX12_inRoom_17 rfl ?_
      have g2 := h.1
      have h := h.2
      refine V_iald (t0 := 1) (L := 5) C (nsM_mem (by decide)) (fun _ => rfl) rfl g2 dX12_inRoom_18 ?_
      refine V_iload_n C 1 dX12_inRoom_19 rfl ?_
      refine V_icmp_ne C 27 dX12_inRoom_20 (by decide) (fun q3 => ?_) (fun q3 => ?_)
      · have h := h.1 q3
        refine V_iconst (v := (0 : Int32)) C dX12_inRoom_27 (by decide) ?_
        refine V_iadd C dX12_inRoom_28 ?_
        refine V_istore_n (lv' := [(2, .int (v2 + (0 : Int32))), (0, .ref (ad 0)), (1, .int v1), (3, .int v3)]) C dX12_inRoom_29 rfl (by decide) rfl ?_
        refine V_iinc (v := (v3 + 1)) (lv' := [(3, .int (v3 + 1)), (2, .int (v2 + (0 : Int32))), (0, .ref (ad 0)), (1, .int v1)]) C 3 dX12_inRoom_30 rfl rfl (by decide) rfl ?_
        refine V_goto C 4 dX12_inRoom_33 (by decide) ?_
        refine V_drop (lv' := [(0, .ref (ad 0)), (1, .int v1), (2, .int (v2 + (0 : Int32))), (3, .int (v3 + 1))]) [2, 3, 1, 0] rfl ?_
        exact ih v1 (v2 + (0 : Int32)) (v3 + 1) M h 
      · have h := h.2 q3
        refine V_iconst (v := (1 : Int32)) C dX12_inRoom_23 (by decide) ?_
        refine V_goto C 28 dX12_inRoom_24 (by decide) ?_
        refine V_iadd C dX12_inRoom_28 ?_
        refine V_istore_n (lv' := [(2, .int (v2 + (1 : Int32))), (0, .ref (ad 0)), (1, .int v1), (3, .int v3)]) C dX12_inRoom_29 rfl (by decide) rfl ?_
        refine V_iinc (v := (v3 + 1)) (lv' := [(3, .int (v3 + 1)), (2, .int (v2 + (1 : Int32))), (0, .ref (ad 0)), (1, .int v1)]) C 3 dX12_inRoom_30 rfl rfl (by decide) rfl ?_
        refine V_goto C 4 dX12_inRoom_33 (by decide) ?_
        refine V_drop (lv' := [(0, .ref (ad 0)), (1, .int v1), (2, .int (v2 + (1 : Int32))), (3, .int (v3 + 1))]) [2, 3, 1, 0] rfl ?_
        exact ih v1 (v2 + (1 : Int32)) (v3 + 1) M h 
  unfold w_X12_inRoom at h
  refine V_iconst (v := (0 : Int32)) C dX12_inRoom_0 (by decide) ?_
  refine V_istore_n (lv' := [(2, .int (0 : Int32)), (0, .ref (ad 0)), (1, .int x1)]) C dX12_inRoom_1 rfl (by decide) rfl ?_
  refine V_iconst (v := (0 : Int32)) C dX12_inRoom_2 (by decide) ?_
  refine V_istore_n (lv' := [(3, .int (0 : Int32)), (2, .int (0 : Int32)), (0, .ref (ad 0)), (1, .int x1)]) C dX12_inRoom_3 rfl (by decide) rfl ?_
  refine V_drop (lv' := [(0, .ref (ad 0)), (1, .int x1), (2, .int (0 : Int32)), (3, .int (0 : Int32))]) [2, 3, 1, 0] rfl ?_
  obtain ⟨n0, h⟩ := h
  exact L4  n0 x1 (0 : Int32) (0 : Int32) M h 
def w_X12_daysNow_173  (post : Int32 → Mm → Prop) (k55 : Int32 → Int32 → Int32 → Int32 → Mm → Prop) (v1 : Int32) (v3 : Int32) (v4 : Int32) (v5 : Int32) (s1 : Int32) (s2 : Int32) (M : Mm) : Prop :=
    (vp_in s1 5) ∧ (∀ M2 : Mm, M2 = wI M 6 (upd (M.1 6) s1.toNatClampNeg (s2 + (0 : Int32))) → (k55 v1 v3 v4 (v5 + 1) M2))
def w_X12_daysNow_141  (post : Int32 → Mm → Prop) (k55 : Int32 → Int32 → Int32 → Int32 → Mm → Prop) (v1 : Int32) (v3 : Int32) (v4 : Int32) (v5 : Int32) (v6 : Int32) (M : Mm) : Prop :=
    (vp_in v6 5) ∧ (w_X12_draw (4 : Int32) M (fun r5 M6 => ((¬ r5 = 0) → (w_X12_daysNow_173  post k55 v1 v3 v4 v5 v6 (M.1 6 v6.toNatClampNeg) M6)) ∧ ((r5 = 0) → ((((9 : Int32) ≤ (M6.1 6 v6.toNatClampNeg)) → (w_X12_daysNow_173  post k55 v1 v3 v4 v5 v6 (M.1 6 v6.toNatClampNeg) M6)) ∧ ((¬ (9 : Int32) ≤ (M6.1 6 v6.toNatClampNeg)) → (∀ M10 : Mm, M10 = wI M6 6 (upd (M6.1 6) v6.toNatClampNeg ((M.1 6 v6.toNatClampNeg) + (1 : Int32))) → (k55 v1 v3 v4 (v5 + 1) M10)))))))
def w_X12_daysNow_192  (post : Int32 → Mm → Prop)  : Nat → Int32 → Int32 → Int32 → Int32 → Mm → Prop
  | 0 => fun _ _ _ _ _ => False
  | n + 1 => fun v3 v4 v5 v6 M =>
    (((5 : Int32) ≤ v6) → (((¬ v3 = 0) → (((¬ v3 = (1 : Int32)) → (post ((M.2 0 32).toInt32) M)) ∧ ((v3 = (1 : Int32)) → (post v5 M)))) ∧ ((v3 = 0) → (post v4 M)))) ∧ ((¬ (5 : Int32) ≤ v6) → ((vp_in v6 5) ∧ (∀ M16 : Mm, M16 = wI M 6 (upd (M.1 6) v6.toNatClampNeg (M.1 22 v6.toNatClampNeg)) → (∀ M18 : Mm, M18 = wI M16 7 (upd (M16.1 7) v6.toNatClampNeg (M16.1 23 v6.toNatClampNeg)) → (w_X12_daysNow_192  post  n v3 v4 v5 (v6 + 1) M18)))))
def w_X12_daysNow_55  (post : Int32 → Mm → Prop)  : Nat → Int32 → Int32 → Int32 → Int32 → Mm → Prop
  | 0 => fun _ _ _ _ _ => False
  | n + 1 => fun v1 v3 v4 v5 M =>
    ((v1 ≤ v5) → (w_X12_inRoom (0 : Int32) M (fun r21 M22 => ∃ n0 : Nat, w_X12_daysNow_192  post  n0 v3 v4 r21 (0 : Int32) M22))) ∧ ((¬ v1 ≤ v5) → (w_X12_draw (M.1 0 3) M (fun r24 M25 => (vp_in r24 5) ∧ (w_X12_ending (M25.1 7 r24.toNatClampNeg) M25 (fun r28 M29 => ((r28 ≤ 0) → (w_X12_daysNow_141  post (w_X12_daysNow_55  post  n) v1 v3 v4 v5 r24 M29)) ∧ ((¬ r28 ≤ 0) → (w_X12_draw r28 M29 (fun r32 M33 => w_X12_passageAt (M29.1 7 r24.toNatClampNeg) r32 M33 (fun r35 M36 => w_X12_alone r24 r35 M36 (fun r38 M39 => w_X12_beyond r35 (M39.1 7 r24.toNatClampNeg) M39 (fun r41 M42 => ∀ M44 : Mm, M44 = wI M42 7 (upd (M42.1 7) r24.toNatClampNeg r41) → (w_X12_daysNow_141  post (w_X12_daysNow_55  post  n) v1 v3 (v4 + r38) v5 r24 M44))))))))))))
def w_X12_daysNow_3  (post : Int32 → Mm → Prop)  : Nat → Int32 → Int32 → Int32 → Int32 → Mm → Prop
  | 0 => fun _ _ _ _ _ => False
  | n + 1 => fun v1 v2 v3 v4 M =>
    (((5 : Int32) ≤ v4) → (∀ M47 : Mm, M47 = wJ M 0 (vp_updL (M.2 0) 32 (v2.toInt64)) → (∃ n0 : Nat, w_X12_daysNow_55  post  n0 v1 v3 (0 : Int32) (0 : Int32) M47))) ∧ ((¬ (5 : Int32) ≤ v4) → ((vp_in v4 5) ∧ (∀ M50 : Mm, M50 = wI M 22 (upd (M.1 22) v4.toNatClampNeg (M.1 6 v4.toNatClampNeg)) → (∀ M52 : Mm, M52 = wI M50 23 (upd (M50.1 23) v4.toNatClampNeg (M50.1 7 v4.toNatClampNeg)) → (w_X12_daysNow_3  post  n v1 v2 v3 (v4 + 1) M52)))))
def w_X12_daysNow (x1 : Int32) (x2 : Int32) (x3 : Int32) (M : Mm) (post : Int32 → Mm → Prop) : Prop :=
  ∃ n0 : Nat, w_X12_daysNow_3  post  n0 x1 x2 x3 (0 : Int32) M
theorem iw_X12_daysNow_X12 : ∀ w ∈ u_ws RX12 TX12 49, w ∈ wsX12_daysNow := by decide +kernel
theorem m_X12_daysNow_f25 : Cond.fieldLink RX12 25 "ShameYardsModel" "liesOf" "[I" ∈ wsX12_daysNow := by decide +kernel
theorem m_X12_daysNow_f287 : Cond.fieldLink RX12 287 "ShameYardsModel" "seedNow" "J" ∈ wsX12_daysNow := by decide +kernel
theorem m_X12_daysNow_f75 : Cond.fieldLink RX12 75 "ShameYardsModel" "savedLies" "[I" ∈ wsX12_daysNow := by decide +kernel
theorem m_X12_daysNow_f28 : Cond.fieldLink RX12 28 "ShameYardsModel" "roomOf" "[I" ∈ wsX12_daysNow := by decide +kernel
theorem m_X12_daysNow_f78 : Cond.fieldLink RX12 78 "ShameYardsModel" "savedRoom" "[I" ∈ wsX12_daysNow := by decide +kernel
theorem m_X12_daysNow_f156 : Cond.fieldLink RX12 156 "ShameYardsModel" "people" "I" ∈ wsX12_daysNow := by decide +kernel
set_option maxHeartbeats 4000000 in
set_option maxRecDepth 100000 in
theorem c_X12_daysNow (l : Launch) (D : va_G) (cy : Nat → ClassId) (ad : Nat → Nat) (A : Nat → Prop) (G : Gd A ad nsM)   (x1 : Int32) (x2 : Int32) (x3 : Int32) (M : Mm) (post : Int32 → Mm → Prop) (h : w_X12_daysNow x1 x2 x3 M post) : CI l yX12_daysNow wsX12_daysNow (rmL 4) D (tysC cy) A ad nsM (ceM ad cy) ExM [.ref (ad 0), .int x1, .int x2, .int x3] M post := by
  refine Met_V (cc := cX12_daysNow) (maxL := 9) (ret := (some .int)) (by decide) rfl G Lo_M ExM_ok (Nat.le_of_ble_eq_true rfl) rfl ?_
  intro p e s m args below meth c C hr hlk
  have C : Cx p s m args c cX12_daysNow 9 RX12 wsX12_daysNow D (tysC cy) A ad nsM (ceM ad cy) ExM := C
  have L173 : ∀ (k55 : Int32 → Int32 → Int32 → Int32 → Mm → Prop) (hk55 : ∀ (v1 : Int32) (v3 : Int32) (v4 : Int32) (v5 : Int32) (M : Mm), k55 v1 v3 v4 v5 M → V p l e (rmL 4) s m args below meth c (MQ below (va_Qi post (Wd D (tysC cy) ad nsM (ceM ad cy) ExM) A) args s 0 0 A) D A ad nsM (ceM ad cy) 9 M [(0, .ref (ad 0)), (1, .int v1), (3, .int v3), (4, .int v4), (5, .int v5)] 55 []) (v1 : Int32) (v3 : Int32) (v4 : Int32) (v5 : Int32) (s1 : Int32) (s2 : Int32) (M : Mm), w_X12_daysNow_173  post k55 v1 v3 v4 v5 s1 s2 M → V p l e (rmL 4) s m args below meth c (MQ below (va_Qi post (Wd D (tysC cy) ad nsM (ceM ad cy) ExM) A) args s 0 0 A) D A ad nsM (ceM ad cy) 9 M [(0, .ref (ad 0)), (1, .int v1), (3, .int v3), (4, .int v4), (5, .int v5)] 173 [.int s2, .int s1, .ref (ad 6)] := by
    intro k55 hk55 v1 v3 v4 v5 s1 s2 M h 
    unfold w_X12_daysNow_173 at h
    refine V_iconst (v := (0 : Int32)) C dX12_daysNow_173 (by decide) ?_
    refine V_iadd C dX12_daysNow_174 ?_
    have g1 := h.1
    have h := h.2
    refine V_iast (t0 := 1) (L := 5) C (nsM_mem (by decide)) (fun _ => rfl) rfl g1 dX12_daysNow_175 (fun M2 e3 => ?_)
    have h := h M2 e3
    refine V_iinc (v := (v5 + 1)) (lv' := [(5, .int (v5 + 1)), (0, .ref (ad 0)), (1, .int v1), (3, .int v3), (4, .int v4)]) C 4 dX12_daysNow_176 rfl rfl (by decide) rfl ?_
    refine V_goto C 55 dX12_daysNow_179 (by decide) ?_
    refine V_drop (lv' := [(0, .ref (ad 0)), (1, .int v1), (3, .int v3), (4, .int v4), (5, .int (v5 + 1))]) [1, 2, 3, 4, 0] rfl ?_
    exact hk55 v1 v3 v4 (v5 + 1) M2 h 
  have L141 : ∀ (k55 : Int32 → Int32 → Int32 → Int32 → Mm → Prop) (hk55 : ∀ (v1 : Int32) (v3 : Int32) (v4 : Int32) (v5 : Int32) (M : Mm), k55 v1 v3 v4 v5 M → V p l e (rmL 4) s m args below meth c (MQ below (va_Qi post (Wd D (tysC cy) ad nsM (ceM ad cy) ExM) A) args s 0 0 A) D A ad nsM (ceM ad cy) 9 M [(0, .ref (ad 0)), (1, .int v1), (3, .int v3), (4, .int v4), (5, .int v5)] 55 []) (v1 : Int32) (v3 : Int32) (v4 : Int32) (v5 : Int32) (v6 : Int32) (M : Mm), w_X12_daysNow_141  post k55 v1 v3 v4 v5 v6 M → V p l e (rmL 4) s m args below meth c (MQ below (va_Qi post (Wd D (tysC cy) ad nsM (ceM ad cy) ExM) A) args s 0 0 A) D A ad nsM (ceM ad cy) 9 M [(0, .ref (ad 0)), (1, .int v1), (3, .int v3), (4, .int v4), (5, .int v5), (6, .int v6)] 141 [] := by
    intro k55 hk55 v1 v3 v4 v5 v6 M h 
    unfold w_X12_daysNow_141 at h
    refine V_aload_n C 0 dX12_daysNow_141 rfl ?_
    refine V_get (k0 := 9) (Cn := RX12) (T := TX12) (N := 49) C (nsM_mem (by decide)) rfl iw_X12_daysNow_X12 (by decide) rfl m_X12_daysNow_f25 (ceM_0 _) rfl dX12_daysNow_142 ?_
    refine V_iload C 5 dX12_daysNow_145 rfl ?_
    refine V_dup2 C dX12_daysNow_147 rfl rfl ?_
    have g4 := h.1
    have h := h.2
    refine V_iald (t0 := 1) (L := 5) C (nsM_mem (by decide)) (fun _ => rfl) rfl g4 dX12_daysNow_148 ?_
    refine V_aload_n C 0 dX12_daysNow_149 rfl ?_
    refine V_iconst (v := (4 : Int32)) C dX12_daysNow_150 (by decide) ?_
    refine V_callVi (q := (RX12, TX12, 49)) (rest := [.int (M.1 6 v6.toNatClampNeg), .int v6, .ref (ad 6)]) C (nsM_mem (by decide)) (ceM_0 _) rfl (c_X12_draw l D cy ad A G (4 : Int32) M _ h) (cwV 1 C.1.2.2.2.2 gX12_daysNow_X12_draw rfl rfl rfl (by decide +kernel) ⟨by decide, by decide⟩) rfl rfl (Nat.le_of_ble_eq_true rfl) dX12_daysNow_151 (fun r5 M6 h => ?_)
    refine V_if_ne C 173 dX12_daysNow_154 (by decide) (fun q8 => ?_) (fun q8 => ?_)
    · have h := h.1 q8
      refine V_drop (lv' := [(0, .ref (ad 0)), (1, .int v1), (3, .int v3), (4, .int v4), (5, .int v5)]) [0, 1, 2, 3, 4] rfl ?_
      exact L173 k55 hk55 v1 v3 v4 v5 v6 (M.1 6 v6.toNatClampNeg) M6 h 
    · have h := h.2 q8
      refine V_aload_n C 0 dX12_daysNow_157 rfl ?_
      refine V_get (k0 := 9) (Cn := RX12) (T := TX12) (N := 49) C (nsM_mem (by decide)) rfl iw_X12_daysNow_X12 (by decide) rfl m_X12_daysNow_f25 (ceM_0 _) rfl dX12_daysNow_158 ?_
      refine V_iload C 5 dX12_daysNow_161 rfl ?_
      refine V_iald (t0 := 1) (L := 5) C (nsM_mem (by decide)) (fun _ => rfl) rfl g4 dX12_daysNow_163 ?_
      refine V_bipush (v := (9 : Int32)) C dX12_daysNow_164 (by decide) ?_
      refine V_icmp_ge C 173 dX12_daysNow_166 (by decide) (fun q9 => ?_) (fun q9 => ?_)
      · have h := h.1 q9
        refine V_drop (lv' := [(0, .ref (ad 0)), (1, .int v1), (3, .int v3), (4, .int v4), (5, .int v5)]) [0, 1, 2, 3, 4] rfl ?_
        exact L173 k55 hk55 v1 v3 v4 v5 v6 (M.1 6 v6.toNatClampNeg) M6 h 
      · have h := h.2 q9
        refine V_iconst (v := (1 : Int32)) C dX12_daysNow_169 (by decide) ?_
        refine V_goto C 174 dX12_daysNow_170 (by decide) ?_
        refine V_iadd C dX12_daysNow_174 ?_
        refine V_iast (t0 := 1) (L := 5) C (nsM_mem (by decide)) (fun _ => rfl) rfl g4 dX12_daysNow_175 (fun M10 e11 => ?_)
        have h := h M10 e11
        refine V_iinc (v := (v5 + 1)) (lv' := [(5, .int (v5 + 1)), (0, .ref (ad 0)), (1, .int v1), (3, .int v3), (4, .int v4), (6, .int v6)]) C 4 dX12_daysNow_176 rfl rfl (by decide) rfl ?_
        refine V_goto C 55 dX12_daysNow_179 (by decide) ?_
        refine V_drop (lv' := [(0, .ref (ad 0)), (1, .int v1), (3, .int v3), (4, .int v4), (5, .int (v5 + 1))]) [1, 2, 3, 4, 0] rfl ?_
        exact hk55 v1 v3 v4 (v5 + 1) M10 h 
  have L192 : ∀  (n : Nat) (v3 : Int32) (v4 : Int32) (v5 : Int32) (v6 : Int32) (M : Mm), w_X12_daysNow_192  post  n v3 v4 v5 v6 M → V p l e (rmL 4) s m args below meth c (MQ below (va_Qi post (Wd D (tysC cy) ad nsM (ceM ad cy) ExM) A) args s 0 0 A) D A ad nsM (ceM ad cy) 9 M [(0, .ref (ad 0)), (3, .int v3), (4, .int v4), (5, .int v5), (6, .int v6)] 192 [] := by
    intro  n
    induction n with
    | zero => intro v3 v4 v5 v6 M h; exact h.elim
    | succ n ih =>
    intro v3 v4 v5 v6 M h 
    unfold w_X12_daysNow_192 at h
    refine V_iload C 4 dX12_daysNow_192 rfl ?_
    refine V_iconst (v := (5 : Int32)) C dX12_daysNow_194 (by decide) ?_
    refine V_icmp_ge C 232 dX12_daysNow_195 (by decide) (fun q12 => ?_) (fun q12 => ?_)
    · have h := h.1 q12
      refine V_iload_n C 1 dX12_daysNow_232 rfl ?_
      refine V_if_ne C 241 dX12_daysNow_233 (by decide) (fun q13 => ?_) (fun q13 => ?_)
      · have h := h.1 q13
        refine V_iload_n C 1 dX12_daysNow_241 rfl ?_
        refine V_iconst (v := (1 : Int32)) C dX12_daysNow_242 (by decide) ?_
        refine V_icmp_ne C 251 dX12_daysNow_243 (by decide) (fun q14 => ?_) (fun q14 => ?_)
        · have h := h.1 q14
          refine V_aload_n C 0 dX12_daysNow_251 rfl ?_
          refine V_get (k0 := 32) (Cn := RX12) (T := TX12) (N := 49) C (nsM_mem (by decide)) rfl iw_X12_daysNow_X12 (by decide) rfl m_X12_daysNow_f287 (ceM_0 _) rfl dX12_daysNow_252 ?_
          refine V_l2i C dX12_daysNow_255 ?_
          exact V_iret C hr hlk dX12_daysNow_256 h
        · have h := h.2 q14
          refine V_iload C 3 dX12_daysNow_246 rfl ?_
          refine V_goto C 256 dX12_daysNow_248 (by decide) ?_
          exact V_iret C hr hlk dX12_daysNow_256 h
      · have h := h.2 q13
        refine V_iload C 2 dX12_daysNow_236 rfl ?_
        refine V_goto C 256 dX12_daysNow_238 (by decide) ?_
        exact V_iret C hr hlk dX12_daysNow_256 h
    · have h := h.2 q12
      refine V_aload_n C 0 dX12_daysNow_198 rfl ?_
      refine V_get (k0 := 9) (Cn := RX12) (T := TX12) (N := 49) C (nsM_mem (by decide)) rfl iw_X12_daysNow_X12 (by decide) rfl m_X12_daysNow_f25 (ceM_0 _) rfl dX12_daysNow_199 ?_
      refine V_iload C 4 dX12_daysNow_202 rfl ?_
      refine V_aload_n C 0 dX12_daysNow_204 rfl ?_
      refine V_get (k0 := 33) (Cn := RX12) (T := TX12) (N := 49) C (nsM_mem (by decide)) rfl iw_X12_daysNow_X12 (by decide) rfl m_X12_daysNow_f75 (ceM_0 _) rfl dX12_daysNow_205 ?_
      refine V_iload C 4 dX12_daysNow_208 rfl ?_
      have g15 := h.1
      have h := h.2
      refine V_iald (t0 := 1) (L := 5) C (nsM_mem (by decide)) (fun _ => rfl) rfl g15 dX12_daysNow_210 ?_
      refine V_iast (t0 := 1) (L := 5) C (nsM_mem (by decide)) (fun _ => rfl) rfl g15 dX12_daysNow_211 (fun M16 e17 => ?_)
      have h := h M16 e17
      refine V_aload_n C 0 dX12_daysNow_212 rfl ?_
      refine V_get (k0 := 10) (Cn := RX12) (T := TX12) (N := 49) C (nsM_mem (by decide)) rfl iw_X12_daysNow_X12 (by decide) rfl m_X12_daysNow_f28 (ceM_0 _) rfl dX12_daysNow_213 ?_
      refine V_iload C 4 dX12_daysNow_216 rfl ?_
      refine V_aload_n C 0 dX12_daysNow_218 rfl ?_
      refine V_get (k0 := 34) (Cn := RX12) (T := TX12) (N := 49) C (nsM_mem (by decide)) rfl iw_X12_daysNow_X12 (by decide) rfl m_X12_daysNow_f78 (ceM_0 _) rfl dX12_daysNow_219 ?_
      refine V_iload C 4 dX12_daysNow_222 rfl ?_
      refine V_iald (t0 := 1) (L := 5) C (nsM_mem (by decide)) (fun _ => rfl) rfl g15 dX12_daysNow_224 ?_
      refine V_iast (t0 := 1) (L := 5) C (nsM_mem (by decide)) (fun _ => rfl) rfl g15 dX12_daysNow_225 (fun M18 e19 => ?_)
      have h := h M18 e19
      refine V_iinc (v := (v6 + 1)) (lv' := [(6, .int (v6 + 1)), (0, .ref (ad 0)), (3, .int v3), (4, .int v4), (5, .int v5)]) C 4 dX12_daysNow_226 rfl rfl (by decide) rfl ?_
      refine V_goto C 192 dX12_daysNow_229 (by decide) ?_
      refine V_drop (lv' := [(0, .ref (ad 0)), (3, .int v3), (4, .int v4), (5, .int v5), (6, .int (v6 + 1))]) [1, 2, 3, 4, 0] rfl ?_
      exact ih v3 v4 v5 (v6 + 1) M18 h 
  have L55 : ∀  (n : Nat) (v1 : Int32) (v3 : Int32) (v4 : Int32) (v5 : Int32) (M : Mm), w_X12_daysNow_55  post  n v1 v3 v4 v5 M → V p l e (rmL 4) s m args below meth c (MQ below (va_Qi post (Wd D (tysC cy) ad nsM (ceM ad cy) ExM) A) args s 0 0 A) D A ad nsM (ceM ad cy) 9 M [(0, .ref (ad 0)), (1, .int v1), (3, .int v3), (4, .int v4), (5, .int v5)] 55 [] := by
    intro  n
    induction n with
    | zero => intro v1 v3 v4 v5 M h; exact h.elim
    | succ n ih =>
    intro v1 v3 v4 v5 M h 
    unfold w_X12_daysNow_55 at h
    refine V_iload C 4 dX12_daysNow_55 rfl ?_
    refine V_iload_n C 1 dX12_daysNow_57 rfl ?_
    refine V_icmp_ge C 182 dX12_daysNow_58 (by decide) (fun q20 => ?_) (fun q20 => ?_)
    · have h := h.1 q20
      refine V_aload_n C 0 dX12_daysNow_182 rfl ?_
      refine V_iconst (v := (0 : Int32)) C dX12_daysNow_183 (by decide) ?_
      refine V_callVi (q := (RX12, TX12, 49)) (rest := []) C (nsM_mem (by decide)) (ceM_0 _) rfl (c_X12_inRoom l D cy ad A G (0 : Int32) M _ h) (cwV 1 C.1.2.2.2.2 gX12_daysNow_X12_inRoom rfl rfl rfl (by decide +kernel) ⟨by decide, by decide⟩) rfl rfl (Nat.le_of_ble_eq_true rfl) dX12_daysNow_184 (fun r21 M22 h => ?_)
      refine V_istore (lv' := [(5, .int r21), (0, .ref (ad 0)), (1, .int v1), (3, .int v3), (4, .int v4)]) C dX12_daysNow_187 (by decide) rfl ?_
      refine V_iconst (v := (0 : Int32)) C dX12_daysNow_189 (by decide) ?_
      refine V_istore (lv' := [(6, .int (0 : Int32)), (5, .int r21), (0, .ref (ad 0)), (1, .int v1), (3, .int v3), (4, .int v4)]) C dX12_daysNow_190 (by decide) rfl ?_
      refine V_drop (lv' := [(0, .ref (ad 0)), (3, .int v3), (4, .int v4), (5, .int r21), (6, .int (0 : Int32))]) [2, 4, 5, 1, 0] rfl ?_
      obtain ⟨n0, h⟩ := h
      exact L192  n0 v3 v4 r21 (0 : Int32) M22 h 
    · have h := h.2 q20
      refine V_aload_n C 0 dX12_daysNow_61 rfl ?_
      refine V_aload_n C 0 dX12_daysNow_62 rfl ?_
      refine V_get (k0 := 3) (Cn := RX12) (T := TX12) (N := 49) C (nsM_mem (by decide)) rfl iw_X12_daysNow_X12 (by decide) rfl m_X12_daysNow_f156 (ceM_0 _) rfl dX12_daysNow_63 ?_
      refine V_callVi (q := (RX12, TX12, 49)) (rest := []) C (nsM_mem (by decide)) (ceM_0 _) rfl (c_X12_draw l D cy ad A G (M.1 0 3) M _ h) (cwV 1 C.1.2.2.2.2 gX12_daysNow_X12_draw rfl rfl rfl (by decide +kernel) ⟨by decide, by decide⟩) rfl rfl (Nat.le_of_ble_eq_true rfl) dX12_daysNow_66 (fun r24 M25 h => ?_)
      refine V_istore (lv' := [(6, .int r24), (0, .ref (ad 0)), (1, .int v1), (3, .int v3), (4, .int v4), (5, .int v5)]) C dX12_daysNow_69 (by decide) rfl ?_
      refine V_aload_n C 1 dX12_daysNow_71 rfl ?_
      refine V_aload_n C 1 dX12_daysNow_72 rfl ?_
      refine V_get (k0 := 10) (Cn := RX12) (T := TX12) (N := 49) C (nsM_mem (by decide)) rfl iw_X12_daysNow_X12 (by decide) rfl m_X12_daysNow_f28 (ceM_0 _) rfl dX12_daysNow_73 ?_
      refine V_iload C 0 dX12_daysNow_76 rfl ?_
      have g27 := h.1
      have h := h.2
      refine V_iald (t0 := 1) (L := 5) C (nsM_mem (by decide)) (fun _ => rfl) rfl g27 dX12_daysNow_78 ?_
      refine V_callVi (q := (RX12, TX12, 49)) (rest := []) C (nsM_mem (by decide)) (ceM_0 _) rfl (c_X12_ending l D cy ad A G (M25.1 7 r24.toNatClampNeg) M25 _ h) (cwV 1 C.1.2.2.2.2 gX12_daysNow_X12_ending rfl rfl rfl (by decide +kernel) ⟨by decide, by decide⟩) rfl rfl (Nat.le_of_ble_eq_true rfl) dX12_daysNow_79 (fun r28 M29 h => ?_)
      refine V_istore (lv' := [(7, .int r28), (6, .int r24), (0, .ref (ad 0)), (1, .int v1), (3, .int v3), (4, .int v4), (5, .int v5)]) C dX12_daysNow_82 (by decide) rfl ?_
      refine V_iload C 0 dX12_daysNow_84 rfl ?_
      refine V_if_le C 141 dX12_daysNow_86 (by decide) (fun q31 => ?_) (fun q31 => ?_)
      · have h := h.1 q31
        refine V_drop (lv' := [(0, .ref (ad 0)), (1, .int v1), (3, .int v3), (4, .int v4), (5, .int v5), (6, .int r24)]) [2, 3, 4, 5, 6, 1] rfl ?_
        exact L141 (w_X12_daysNow_55  post  n) ih v1 v3 v4 v5 r24 M29 h 
      · have h := h.2 q31
        refine V_aload_n C 2 dX12_daysNow_89 rfl ?_
        refine V_aload_n C 2 dX12_daysNow_90 rfl ?_
        refine V_get (k0 := 10) (Cn := RX12) (T := TX12) (N := 49) C (nsM_mem (by decide)) rfl iw_X12_daysNow_X12 (by decide) rfl m_X12_daysNow_f28 (ceM_0 _) rfl dX12_daysNow_91 ?_
        refine V_iload C 1 dX12_daysNow_94 rfl ?_
        refine V_iald (t0 := 1) (L := 5) C (nsM_mem (by decide)) (fun _ => rfl) rfl g27 dX12_daysNow_96 ?_
        refine V_aload_n C 2 dX12_daysNow_97 rfl ?_
        refine V_iload C 0 dX12_daysNow_98 rfl ?_
        refine V_callVi (q := (RX12, TX12, 49)) (rest := [.int (M29.1 7 r24.toNatClampNeg), .ref (ad 0)]) C (nsM_mem (by decide)) (ceM_0 _) rfl (c_X12_draw l D cy ad A G r28 M29 _ h) (cwV 1 C.1.2.2.2.2 gX12_daysNow_X12_draw rfl rfl rfl (by decide +kernel) ⟨by decide, by decide⟩) rfl rfl (Nat.le_of_ble_eq_true rfl) dX12_daysNow_100 (fun r32 M33 h => ?_)
        refine V_callVi (q := (RX12, TX12, 49)) (rest := []) C (nsM_mem (by decide)) (ceM_0 _) rfl (c_X12_passageAt l D cy ad A G (M29.1 7 r24.toNatClampNeg) r32 M33 _ h) (cwV 2 C.1.2.2.2.2 gX12_daysNow_X12_passageAt rfl rfl rfl (by decide +kernel) ⟨by decide, by decide⟩) rfl rfl (Nat.le_of_ble_eq_true rfl) dX12_daysNow_103 (fun r35 M36 h => ?_)
        refine V_istore (lv' := [(8, .int r35), (7, .int r28), (6, .int r24), (0, .ref (ad 0)), (1, .int v1), (3, .int v3), (4, .int v4), (5, .int v5)]) C dX12_daysNow_106 (by decide) rfl ?_
        refine V_iload C 6 dX12_daysNow_108 rfl ?_
        refine V_aload_n C 3 dX12_daysNow_110 rfl ?_
        refine V_iload C 2 dX12_daysNow_111 rfl ?_
        refine V_iload C 0 dX12_daysNow_113 rfl ?_
        refine V_callVi (q := (RX12, TX12, 49)) (rest := [.int v4]) C (nsM_mem (by decide)) (ceM_0 _) rfl (c_X12_alone l D cy ad A G r24 r35 M36 _ h) (cwV 2 C.1.2.2.2.2 gX12_daysNow_X12_alone rfl rfl rfl (by decide +kernel) ⟨by decide, by decide⟩) rfl rfl (Nat.le_of_ble_eq_true rfl) dX12_daysNow_115 (fun r38 M39 h => ?_)
        refine V_iadd C dX12_daysNow_118 ?_
        refine V_istore (lv' := [(4, .int (v4 + r38)), (8, .int r35), (7, .int r28), (6, .int r24), (0, .ref (ad 0)), (1, .int v1), (3, .int v3), (5, .int v5)]) C dX12_daysNow_119 (by decide) rfl ?_
        refine V_aload_n C 4 dX12_daysNow_121 rfl ?_
        refine V_get (k0 := 10) (Cn := RX12) (T := TX12) (N := 49) C (nsM_mem (by decide)) rfl iw_X12_daysNow_X12 (by decide) rfl m_X12_daysNow_f28 (ceM_0 _) rfl dX12_daysNow_122 ?_
        refine V_iload C 3 dX12_daysNow_125 rfl ?_
        refine V_aload_n C 4 dX12_daysNow_127 rfl ?_
        refine V_iload C 1 dX12_daysNow_128 rfl ?_
        refine V_aload_n C 4 dX12_daysNow_130 rfl ?_
        refine V_get (k0 := 10) (Cn := RX12) (T := TX12) (N := 49) C (nsM_mem (by decide)) rfl iw_X12_daysNow_X12 (by decide) rfl m_X12_daysNow_f28 (ceM_0 _) rfl dX12_daysNow_131 ?_
        refine V_iload C 3 dX12_daysNow_134 rfl ?_
        refine V_iald (t0 := 1) (L := 5) C (nsM_mem (by decide)) (fun _ => rfl) rfl g27 dX12_daysNow_136 ?_
        refine V_callVi (q := (RX12, TX12, 49)) (rest := [.int r24, .ref (ad 7)]) C (nsM_mem (by decide)) (ceM_0 _) rfl (c_X12_beyond l D cy ad A G r35 (M39.1 7 r24.toNatClampNeg) M39 _ h) (cwV 2 C.1.2.2.2.2 gX12_daysNow_X12_beyond rfl rfl rfl (by decide +kernel) ⟨by decide, by decide⟩) rfl rfl (Nat.le_of_ble_eq_true rfl) dX12_daysNow_137 (fun r41 M42 h => ?_)
        refine V_iast (t0 := 1) (L := 5) C (nsM_mem (by decide)) (fun _ => rfl) rfl g27 dX12_daysNow_140 (fun M44 e45 => ?_)
        have h := h M44 e45
        refine V_drop (lv' := [(0, .ref (ad 0)), (1, .int v1), (3, .int v3), (4, .int (v4 + r38)), (5, .int v5), (6, .int r24)]) [4, 5, 6, 0, 7, 3] rfl ?_
        exact L141 (w_X12_daysNow_55  post  n) ih v1 v3 (v4 + r38) v5 r24 M44 h 
  have L3 : ∀  (n : Nat) (v1 : Int32) (v2 : Int32) (v3 : Int32) (v4 : Int32) (M : Mm), w_X12_daysNow_3  post  n v1 v2 v3 v4 M → V p l e (rmL 4) s m args below meth c (MQ below (va_Qi post (Wd D (tysC cy) ad nsM (ceM ad cy) ExM) A) args s 0 0 A) D A ad nsM (ceM ad cy) 9 M [(0, .ref (ad 0)), (1, .int v1), (2, .int v2), (3, .int v3), (4, .int v4)] 3 [] := by
    intro  n
    induction n with
    | zero => intro v1 v2 v3 v4 M h; exact h.elim
    | succ n ih =>
    intro v1 v2 v3 v4 M h 
    unfold w_X12_daysNow_3 at h
    refine V_iload C 4 dX12_daysNow_3 rfl ?_
    refine V_iconst (v := (5 : Int32)) C dX12_daysNow_5 (by decide) ?_
    refine V_icmp_ge C 43 dX12_daysNow_6 (by decide) (fun q46 => ?_) (fun q46 => ?_)
    · have h := h.1 q46
      refine V_aload_n C 0 dX12_daysNow_43 rfl ?_
      refine V_iload_n C 2 dX12_daysNow_44 rfl ?_
      refine V_i2l C dX12_daysNow_45 ?_
      refine V_putJ (k0 := 32) (Cn := RX12) (T := TX12) (N := 49) C (nsM_mem (by decide)) rfl iw_X12_daysNow_X12 (by decide) rfl m_X12_daysNow_f287 tyX12_ok nmX12 rfl (show _ = some FieldType.long by decide +kernel) rfl rfl (Nat.le_of_ble_eq_true rfl) (ceM_0 _) (stM0_32  _ _) dX12_daysNow_46 (fun M47 e48 => ?_)
      have h := h M47 e48
      refine V_iconst (v := (0 : Int32)) C dX12_daysNow_49 (by decide) ?_
      refine V_istore (lv' := [(4, .int (0 : Int32)), (0, .ref (ad 0)), (1, .int v1), (2, .int v2), (3, .int v3)]) C dX12_daysNow_50 (by decide) rfl ?_
      refine V_iconst (v := (0 : Int32)) C dX12_daysNow_52 (by decide) ?_
      refine V_istore (lv' := [(5, .int (0 : Int32)), (4, .int (0 : Int32)), (0, .ref (ad 0)), (1, .int v1), (2, .int v2), (3, .int v3)]) C dX12_daysNow_53 (by decide) rfl ?_
      refine V_drop (lv' := [(0, .ref (ad 0)), (1, .int v1), (3, .int v3), (4, .int (0 : Int32)), (5, .int (0 : Int32))]) [2, 3, 5, 1, 0] rfl ?_
      obtain ⟨n0, h⟩ := h
      exact L55  n0 v1 v3 (0 : Int32) (0 : Int32) M47 h 
    · have h := h.2 q46
      refine V_aload_n C 0 dX12_daysNow_9 rfl ?_
      refine V_get (k0 := 33) (Cn := RX12) (T := TX12) (N := 49) C (nsM_mem (by decide)) rfl iw_X12_daysNow_X12 (by decide) rfl m_X12_daysNow_f75 (ceM_0 _) rfl dX12_daysNow_10 ?_
      refine V_iload C 4 dX12_daysNow_13 rfl ?_
      refine V_aload_n C 0 dX12_daysNow_15 rfl ?_
      refine V_get (k0 := 9) (Cn := RX12) (T := TX12) (N := 49) C (nsM_mem (by decide)) rfl iw_X12_daysNow_X12 (by decide) rfl m_X12_daysNow_f25 (ceM_0 _) rfl dX12_daysNow_16 ?_
      refine V_iload C 4 dX12_daysNow_19 rfl ?_
      have g49 := h.1
      have h := h.2
      refine V_iald (t0 := 1) (L := 5) C (nsM_mem (by decide)) (fun _ => rfl) rfl g49 dX12_daysNow_21 ?_
      refine V_iast (t0 := 1) (L := 5) C (nsM_mem (by decide)) (fun _ => rfl) rfl g49 dX12_daysNow_22 (fun M50 e51 => ?_)
      have h := h M50 e51
      refine V_aload_n C 0 dX12_daysNow_23 rfl ?_
      refine V_get (k0 := 34) (Cn := RX12) (T := TX12) (N := 49) C (nsM_mem (by decide)) rfl iw_X12_daysNow_X12 (by decide) rfl m_X12_daysNow_f78 (ceM_0 _) rfl dX12_daysNow_24 ?_
      refine V_iload C 4 dX12_daysNow_27 rfl ?_
      refine V_aload_n C 0 dX12_daysNow_29 rfl ?_
      refine V_get (k0 := 10) (Cn := RX12) (T := TX12) (N := 49) C (nsM_mem (by decide)) rfl iw_X12_daysNow_X12 (by decide) rfl m_X12_daysNow_f28 (ceM_0 _) rfl dX12_daysNow_30 ?_
      refine V_iload C 4 dX12_daysNow_33 rfl ?_
      refine V_iald (t0 := 1) (L := 5) C (nsM_mem (by decide)) (fun _ => rfl) rfl g49 dX12_daysNow_35 ?_
      refine V_iast (t0 := 1) (L := 5) C (nsM_mem (by decide)) (fun _ => rfl) rfl g49 dX12_daysNow_36 (fun M52 e53 => ?_)
      have h := h M52 e53
      refine V_iinc (v := (v4 + 1)) (lv' := [(4, .int (v4 + 1)), (0, .ref (ad 0)), (1, .int v1), (2, .int v2), (3, .int v3)]) C 4 dX12_daysNow_37 rfl rfl (by decide) rfl ?_
      refine V_goto C 3 dX12_daysNow_40 (by decide) ?_
      refine V_drop (lv' := [(0, .ref (ad 0)), (1, .int v1), (2, .int v2), (3, .int v3), (4, .int (v4 + 1))]) [1, 2, 3, 4, 0] rfl ?_
      exact ih v1 v2 v3 (v4 + 1) M52 h 
  unfold w_X12_daysNow at h
  refine V_iconst (v := (0 : Int32)) C dX12_daysNow_0 (by decide) ?_
  refine V_istore (lv' := [(4, .int (0 : Int32)), (0, .ref (ad 0)), (1, .int x1), (2, .int x2), (3, .int x3)]) C dX12_daysNow_1 (by decide) rfl ?_
  refine V_drop (lv' := [(0, .ref (ad 0)), (1, .int x1), (2, .int x2), (3, .int x3), (4, .int (0 : Int32))]) [1, 2, 3, 4, 0] rfl ?_
  obtain ⟨n0, h⟩ := h
  exact L3  n0 x1 x2 x3 (0 : Int32) M h 
def w_X12_days (x1 : Int32) (x2 : Int32) (x3 : Int32) (M : Mm) (post : Int32 → Mm → Prop) : Prop :=
  w_X12_within x1 (1 : Int32) (60 : Int32) M (fun r1 M2 => ((r1 = 0) → (post (-102 : Int32) M2)) ∧ ((¬ r1 = 0) → (((x2 < 0) → (post (-102 : Int32) M2)) ∧ ((¬ x2 < 0) → (w_X12_within x3 (0 : Int32) (2 : Int32) M2 (fun r6 M7 => ((¬ r6 = 0) → (((¬ (M7.1 0 3) = 0) → (w_X12_daysNow x1 x2 x3 M7 (fun r11 M12 => post r11 M12))) ∧ (((M7.1 0 3) = 0) → (post (-103 : Int32) M7)))) ∧ ((r6 = 0) → (post (-102 : Int32) M7))))))))
theorem iw_X12_days_X12 : ∀ w ∈ u_ws RX12 TX12 49, w ∈ wsX12_days := by decide +kernel
theorem m_X12_days_f156 : Cond.fieldLink RX12 156 "ShameYardsModel" "people" "I" ∈ wsX12_days := by decide +kernel
set_option maxHeartbeats 4000000 in
set_option maxRecDepth 100000 in
theorem c_X12_days (l : Launch) (D : va_G) (cy : Nat → ClassId) (ad : Nat → Nat) (A : Nat → Prop) (G : Gd A ad nsM)   (x1 : Int32) (x2 : Int32) (x3 : Int32) (M : Mm) (post : Int32 → Mm → Prop) (h : w_X12_days x1 x2 x3 M post) : CI l yX12_days wsX12_days (rmL 5) D (tysC cy) A ad nsM (ceM ad cy) ExM [.ref (ad 0), .int x1, .int x2, .int x3] M post := by
  refine Met_V (cc := cX12_days) (maxL := 4) (ret := (some .int)) (by decide) rfl G Lo_M ExM_ok (Nat.le_of_ble_eq_true rfl) rfl ?_
  intro p e s m args below meth c C hr hlk
  have C : Cx p s m args c cX12_days 4 RX12 wsX12_days D (tysC cy) A ad nsM (ceM ad cy) ExM := C
  unfold w_X12_days at h
  refine V_iload_n C 1 dX12_days_0 rfl ?_
  refine V_iconst (v := (1 : Int32)) C dX12_days_1 (by decide) ?_
  refine V_bipush (v := (60 : Int32)) C dX12_days_2 (by decide) ?_
  refine V_callSi (rest := []) C (c_X12_within l D cy ad A G x1 (1 : Int32) (60 : Int32) M _ h) (va_cwS 3 C.1.2.2.2.2 gX12_days_X12_within rfl rfl rfl (by decide +kernel) ⟨by decide, by decide⟩) rfl rfl (Nat.le_of_ble_eq_true rfl) dX12_days_4 (fun r1 M2 h => ?_)
  obtain ⟨z3, h⟩ := h
  refine V_if_eq C 23 dX12_days_7 (by decide) (fun q4 => ?_) (fun q4 => ?_)
  · have h := h.1 q4
    refine V_bipush (v := (-102 : Int32)) C dX12_days_23 (by decide) ?_
    exact V_iret C hr hlk dX12_days_25 h
  · have h := h.2 q4
    refine V_iload_n C 2 dX12_days_10 rfl ?_
    refine V_if_lt C 23 dX12_days_11 (by decide) (fun q5 => ?_) (fun q5 => ?_)
    · have h := h.1 q5
      refine V_bipush (v := (-102 : Int32)) C dX12_days_23 (by decide) ?_
      exact V_iret C hr hlk dX12_days_25 h
    · have h := h.2 q5
      refine V_iload_n C 3 dX12_days_14 rfl ?_
      refine V_iconst (v := (0 : Int32)) C dX12_days_15 (by decide) ?_
      refine V_iconst (v := (2 : Int32)) C dX12_days_16 (by decide) ?_
      refine V_callSi (rest := []) C (c_X12_within l D cy ad A G x3 (0 : Int32) (2 : Int32) M2 _ h) (va_cwS 3 C.1.2.2.2.2 gX12_days_X12_within rfl rfl rfl (by decide +kernel) ⟨by decide, by decide⟩) rfl rfl (Nat.le_of_ble_eq_true rfl) dX12_days_17 (fun r6 M7 h => ?_)
      obtain ⟨z8, h⟩ := h
      refine V_if_ne C 26 dX12_days_20 (by decide) (fun q9 => ?_) (fun q9 => ?_)
      · have h := h.1 q9
        refine V_aload_n C 0 dX12_days_26 rfl ?_
        refine V_get (k0 := 3) (Cn := RX12) (T := TX12) (N := 49) C (nsM_mem (by decide)) rfl iw_X12_days_X12 (by decide) rfl m_X12_days_f156 (ceM_0 _) rfl dX12_days_27 ?_
        refine V_if_ne C 38 dX12_days_30 (by decide) (fun q10 => ?_) (fun q10 => ?_)
        · have h := h.1 q10
          refine V_aload_n C 0 dX12_days_38 rfl ?_
          refine V_iload_n C 1 dX12_days_39 rfl ?_
          refine V_iload_n C 2 dX12_days_40 rfl ?_
          refine V_iload_n C 3 dX12_days_41 rfl ?_
          refine V_callVi (q := (RX12, TX12, 49)) (rest := []) C (nsM_mem (by decide)) (ceM_0 _) rfl (c_X12_daysNow l D cy ad A G x1 x2 x3 M7 _ h) (cwV 3 C.1.2.2.2.2 gX12_days_X12_daysNow rfl rfl rfl (by decide +kernel) ⟨by decide, by decide⟩) rfl rfl (Nat.le_of_ble_eq_true rfl) dX12_days_42 (fun r11 M12 h => ?_)
          exact V_iret C hr hlk dX12_days_45 h
        · have h := h.2 q10
          refine V_bipush (v := (-103 : Int32)) C dX12_days_33 (by decide) ?_
          refine V_goto C 45 dX12_days_35 (by decide) ?_
          exact V_iret C hr hlk dX12_days_45 h
      · have h := h.2 q9
        refine V_bipush (v := (-102 : Int32)) C dX12_days_23 (by decide) ?_
        exact V_iret C hr hlk dX12_days_25 h
def w_X12_tookAll_4  (post : Int32 → Mm → Prop)  : Nat → Int32 → Int32 → Mm → Prop
  | 0 => fun _ _ _ => False
  | n + 1 => fun v1 v2 M =>
    (((M.1 0 3) ≤ v2) → (post v1 M)) ∧ ((¬ (M.1 0 3) ≤ v2) → ((vp_in v2 5) ∧ (w_X12_tookAll_4  post  n (v1 + (M.1 8 v2.toNatClampNeg)) (v2 + 1) M)))
def w_X12_tookAll  (M : Mm) (post : Int32 → Mm → Prop) : Prop :=
  ∃ n0 : Nat, w_X12_tookAll_4  post  n0 (0 : Int32) (0 : Int32) M
theorem iw_X12_tookAll_X12 : ∀ w ∈ u_ws RX12 TX12 49, w ∈ wsX12_tookAll := by decide +kernel
theorem m_X12_tookAll_f156 : Cond.fieldLink RX12 156 "ShameYardsModel" "people" "I" ∈ wsX12_tookAll := by decide +kernel
theorem m_X12_tookAll_f31 : Cond.fieldLink RX12 31 "ShameYardsModel" "tookOf" "[I" ∈ wsX12_tookAll := by decide +kernel
set_option maxHeartbeats 4000000 in
set_option maxRecDepth 100000 in
theorem c_X12_tookAll (l : Launch) (D : va_G) (cy : Nat → ClassId) (ad : Nat → Nat) (A : Nat → Prop) (G : Gd A ad nsM)    (M : Mm) (post : Int32 → Mm → Prop) (h : w_X12_tookAll  M post) : CI l yX12_tookAll wsX12_tookAll (rmL 2) D (tysC cy) A ad nsM (ceM ad cy) ExM [.ref (ad 0)] M post := by
  refine Met_V (cc := cX12_tookAll) (maxL := 3) (ret := (some .int)) (by decide) rfl G Lo_M ExM_ok (Nat.le_of_ble_eq_true rfl) rfl ?_
  intro p e s m args below meth c C hr hlk
  have C : Cx p s m args c cX12_tookAll 3 RX12 wsX12_tookAll D (tysC cy) A ad nsM (ceM ad cy) ExM := C
  have L4 : ∀  (n : Nat) (v1 : Int32) (v2 : Int32) (M : Mm), w_X12_tookAll_4  post  n v1 v2 M → V p l e (rmL 2) s m args below meth c (MQ below (va_Qi post (Wd D (tysC cy) ad nsM (ceM ad cy) ExM) A) args s 0 0 A) D A ad nsM (ceM ad cy) 3 M [(0, .ref (ad 0)), (1, .int v1), (2, .int v2)] 4 [] := by
    intro  n
    induction n with
    | zero => intro v1 v2 M h; exact h.elim
    | succ n ih =>
    intro v1 v2 M h 
    unfold w_X12_tookAll_4 at h
    refine V_iload_n C 2 dX12_tookAll_4 rfl ?_
    refine V_aload_n C 0 dX12_tookAll_5 rfl ?_
    refine V_get (k0 := 3) (Cn := RX12) (T := TX12) (N := 49) C (nsM_mem (by decide)) rfl iw_X12_tookAll_X12 (by decide) rfl m_X12_tookAll_f156 (ceM_0 _) rfl dX12_tookAll_6 ?_
    refine V_icmp_ge C 27 dX12_tookAll_9 (by decide) (fun q1 => ?_) (fun q1 => ?_)
    · have h := h.1 q1
      refine V_iload_n C 1 dX12_tookAll_27 rfl ?_
      exact V_iret C hr hlk dX12_tookAll_28 h
    · have h := h.2 q1
      refine V_iload_n C 1 dX12_tookAll_12 rfl ?_
      refine V_aload_n C 0 dX12_tookAll_13 rfl ?_
      refine V_get (k0 := 11) (Cn := RX12) (T := TX12) (N := 49) C (nsM_mem (by decide)) rfl iw_X12_tookAll_X12 (by decide) rfl m_X12_tookAll_f31 (ceM_0 _) rfl dX12_tookAll_14 ?_
      refine V_iload_n C 2 dX12_tookAll_17 rfl ?_
      have g2 := h.1
      have h := h.2
      refine V_iald (t0 := 1) (L := 5) C (nsM_mem (by decide)) (fun _ => rfl) rfl g2 dX12_tookAll_18 ?_
      refine V_iadd C dX12_tookAll_19 ?_
      refine V_istore_n (lv' := [(1, .int (v1 + (M.1 8 v2.toNatClampNeg))), (0, .ref (ad 0)), (2, .int v2)]) C dX12_tookAll_20 rfl (by decide) rfl ?_
      refine V_iinc (v := (v2 + 1)) (lv' := [(2, .int (v2 + 1)), (1, .int (v1 + (M.1 8 v2.toNatClampNeg))), (0, .ref (ad 0))]) C 2 dX12_tookAll_21 rfl rfl (by decide) rfl ?_
      refine V_goto C 4 dX12_tookAll_24 (by decide) ?_
      refine V_drop (lv' := [(0, .ref (ad 0)), (1, .int (v1 + (M.1 8 v2.toNatClampNeg))), (2, .int (v2 + 1))]) [2, 1, 0] rfl ?_
      exact ih (v1 + (M.1 8 v2.toNatClampNeg)) (v2 + 1) M h 
  unfold w_X12_tookAll at h
  refine V_iconst (v := (0 : Int32)) C dX12_tookAll_0 (by decide) ?_
  refine V_istore_n (lv' := [(1, .int (0 : Int32)), (0, .ref (ad 0))]) C dX12_tookAll_1 rfl (by decide) rfl ?_
  refine V_iconst (v := (0 : Int32)) C dX12_tookAll_2 (by decide) ?_
  refine V_istore_n (lv' := [(2, .int (0 : Int32)), (1, .int (0 : Int32)), (0, .ref (ad 0))]) C dX12_tookAll_3 rfl (by decide) rfl ?_
  refine V_drop (lv' := [(0, .ref (ad 0)), (1, .int (0 : Int32)), (2, .int (0 : Int32))]) [2, 1, 0] rfl ?_
  obtain ⟨n0, h⟩ := h
  exact L4  n0 (0 : Int32) (0 : Int32) M h 
def w_X12_image_128  (post : Int32 → Mm → Prop)  : Nat → Int32 → Mm → Prop
  | 0 => fun _ _ => False
  | n + 1 => fun v1 M =>
    (((6 : Int32) ≤ v1) → (w_X12_tookAll  M (fun r2 M3 => post r2 M3))) ∧ ((¬ (6 : Int32) ≤ v1) → ((vp_in v1 6) ∧ (∀ M6 : Mm, M6 = wI M 29 (upd (M.1 29) v1.toNatClampNeg (M.1 9 v1.toNatClampNeg)) → (∀ M8 : Mm, M8 = wI M6 30 (upd (M6.1 30) v1.toNatClampNeg (M6.1 10 v1.toNatClampNeg)) → (∀ M10 : Mm, M10 = wI M8 31 (upd (M8.1 31) v1.toNatClampNeg (M8.1 11 v1.toNatClampNeg)) → (∀ M12 : Mm, M12 = wI M10 32 (upd (M10.1 32) v1.toNatClampNeg (M10.1 12 v1.toNatClampNeg)) → (w_X12_image_128  post  n (v1 + 1) M12)))))))
def w_X12_image_67  (post : Int32 → Mm → Prop)  : Nat → Int32 → Mm → Prop
  | 0 => fun _ _ => False
  | n + 1 => fun v1 M =>
    (((5 : Int32) ≤ v1) → (∃ n0 : Nat, w_X12_image_128  post  n0 (0 : Int32) M)) ∧ ((¬ (5 : Int32) ≤ v1) → ((vp_in v1 5) ∧ (∀ M16 : Mm, M16 = wI M 25 (upd (M.1 25) v1.toNatClampNeg (M.1 5 v1.toNatClampNeg)) → (∀ M18 : Mm, M18 = wI M16 26 (upd (M16.1 26) v1.toNatClampNeg (M16.1 6 v1.toNatClampNeg)) → (∀ M20 : Mm, M20 = wI M18 27 (upd (M18.1 27) v1.toNatClampNeg (M18.1 7 v1.toNatClampNeg)) → (∀ M22 : Mm, M22 = wI M20 28 (upd (M20.1 28) v1.toNatClampNeg (M20.1 8 v1.toNatClampNeg)) → (w_X12_image_67  post  n (v1 + 1) M22)))))))
def w_X12_image_41  (post : Int32 → Mm → Prop)  : Nat → Int32 → Mm → Prop
  | 0 => fun _ _ => False
  | n + 1 => fun v1 M =>
    (((7 : Int32) ≤ v1) → (∃ n0 : Nat, w_X12_image_67  post  n0 (0 : Int32) M)) ∧ ((¬ (7 : Int32) ≤ v1) → ((vp_in v1 7) ∧ (∀ M26 : Mm, M26 = wI M 24 (upd (M.1 24) v1.toNatClampNeg (M.1 3 v1.toNatClampNeg)) → (w_X12_image_41  post  n (v1 + 1) M26))))
def w_X12_image  (M : Mm) (post : Int32 → Mm → Prop) : Prop :=
  ((¬ (M.1 0 3) = 0) → (∀ M29 : Mm, M29 = wI M 0 (upd (M.1 0) 35 (1 : Int32)) → (∀ M31 : Mm, M31 = wI M29 0 (upd (M29.1 0) 36 (M29.1 0 0)) → (∀ M33 : Mm, M33 = wI M31 0 (upd (M31.1 0) 37 (M31.1 0 12)) → (∀ M35 : Mm, M35 = wI M33 0 (upd (M33.1 0) 38 (M33.1 0 14)) → (∃ n0 : Nat, w_X12_image_41  post  n0 (0 : Int32) M35)))))) ∧ (((M.1 0 3) = 0) → (post (-103 : Int32) M))
theorem iw_X12_image_X12 : ∀ w ∈ u_ws RX12 TX12 49, w ∈ wsX12_image := by decide +kernel
theorem m_X12_image_f96 : Cond.fieldLink RX12 96 "ShameYardsModel" "keptPerson" "[I" ∈ wsX12_image := by decide +kernel
theorem m_X12_image_f34 : Cond.fieldLink RX12 34 "ShameYardsModel" "seenPerson" "[I" ∈ wsX12_image := by decide +kernel
theorem m_X12_image_f99 : Cond.fieldLink RX12 99 "ShameYardsModel" "keptPassage" "[I" ∈ wsX12_image := by decide +kernel
theorem m_X12_image_f37 : Cond.fieldLink RX12 37 "ShameYardsModel" "seenPassage" "[I" ∈ wsX12_image := by decide +kernel
theorem m_X12_image_f102 : Cond.fieldLink RX12 102 "ShameYardsModel" "keptWith" "[I" ∈ wsX12_image := by decide +kernel
theorem m_X12_image_f40 : Cond.fieldLink RX12 40 "ShameYardsModel" "seenWith" "[I" ∈ wsX12_image := by decide +kernel
theorem m_X12_image_f105 : Cond.fieldLink RX12 105 "ShameYardsModel" "keptSteps" "[I" ∈ wsX12_image := by decide +kernel
theorem m_X12_image_f43 : Cond.fieldLink RX12 43 "ShameYardsModel" "seenSteps" "[I" ∈ wsX12_image := by decide +kernel
theorem m_X12_image_f84 : Cond.fieldLink RX12 84 "ShameYardsModel" "keptDeeds" "[I" ∈ wsX12_image := by decide +kernel
theorem m_X12_image_f22 : Cond.fieldLink RX12 22 "ShameYardsModel" "deedsOf" "[I" ∈ wsX12_image := by decide +kernel
theorem m_X12_image_f87 : Cond.fieldLink RX12 87 "ShameYardsModel" "keptLies" "[I" ∈ wsX12_image := by decide +kernel
theorem m_X12_image_f25 : Cond.fieldLink RX12 25 "ShameYardsModel" "liesOf" "[I" ∈ wsX12_image := by decide +kernel
theorem m_X12_image_f90 : Cond.fieldLink RX12 90 "ShameYardsModel" "keptRoom" "[I" ∈ wsX12_image := by decide +kernel
theorem m_X12_image_f28 : Cond.fieldLink RX12 28 "ShameYardsModel" "roomOf" "[I" ∈ wsX12_image := by decide +kernel
theorem m_X12_image_f93 : Cond.fieldLink RX12 93 "ShameYardsModel" "keptTook" "[I" ∈ wsX12_image := by decide +kernel
theorem m_X12_image_f31 : Cond.fieldLink RX12 31 "ShameYardsModel" "tookOf" "[I" ∈ wsX12_image := by decide +kernel
theorem m_X12_image_f81 : Cond.fieldLink RX12 81 "ShameYardsModel" "keptLength" "[I" ∈ wsX12_image := by decide +kernel
theorem m_X12_image_f16 : Cond.fieldLink RX12 16 "ShameYardsModel" "lengthOf" "[I" ∈ wsX12_image := by decide +kernel
theorem m_X12_image_f156 : Cond.fieldLink RX12 156 "ShameYardsModel" "people" "I" ∈ wsX12_image := by decide +kernel
theorem m_X12_image_f309 : Cond.fieldLink RX12 309 "ShameYardsModel" "isKept" "Z" ∈ wsX12_image := by decide +kernel
theorem m_X12_image_f162 : Cond.fieldLink RX12 162 "ShameYardsModel" "ministries" "I" ∈ wsX12_image := by decide +kernel
theorem m_X12_image_f312 : Cond.fieldLink RX12 312 "ShameYardsModel" "keptMinistry" "I" ∈ wsX12_image := by decide +kernel
theorem m_X12_image_f159 : Cond.fieldLink RX12 159 "ShameYardsModel" "together" "I" ∈ wsX12_image := by decide +kernel
theorem m_X12_image_f315 : Cond.fieldLink RX12 315 "ShameYardsModel" "keptTogether" "I" ∈ wsX12_image := by decide +kernel
theorem m_X12_image_f165 : Cond.fieldLink RX12 165 "ShameYardsModel" "seen" "I" ∈ wsX12_image := by decide +kernel
theorem m_X12_image_f318 : Cond.fieldLink RX12 318 "ShameYardsModel" "keptSeen" "I" ∈ wsX12_image := by decide +kernel
set_option maxHeartbeats 4000000 in
set_option maxRecDepth 100000 in
theorem c_X12_image (l : Launch) (D : va_G) (cy : Nat → ClassId) (ad : Nat → Nat) (A : Nat → Prop) (G : Gd A ad nsM)    (M : Mm) (post : Int32 → Mm → Prop) (h : w_X12_image  M post) : CI l yX12_image wsX12_image (rmL 3) D (tysC cy) A ad nsM (ceM ad cy) ExM [.ref (ad 0)] M post := by
  refine Met_V (cc := cX12_image) (maxL := 2) (ret := (some .int)) (by decide) rfl G Lo_M ExM_ok (Nat.le_of_ble_eq_true rfl) rfl ?_
  intro p e s m args below meth c C hr hlk
  have C : Cx p s m args c cX12_image 2 RX12 wsX12_image D (tysC cy) A ad nsM (ceM ad cy) ExM := C
  have L128 : ∀  (n : Nat) (v1 : Int32) (M : Mm), w_X12_image_128  post  n v1 M → V p l e (rmL 3) s m args below meth c (MQ below (va_Qi post (Wd D (tysC cy) ad nsM (ceM ad cy) ExM) A) args s 0 0 A) D A ad nsM (ceM ad cy) 2 M [(0, .ref (ad 0)), (1, .int v1)] 128 [] := by
    intro  n
    induction n with
    | zero => intro v1 M h; exact h.elim
    | succ n ih =>
    intro v1 M h 
    unfold w_X12_image_128 at h
    refine V_iload_n C 1 dX12_image_128 rfl ?_
    refine V_bipush (v := (6 : Int32)) C dX12_image_129 (by decide) ?_
    refine V_icmp_ge C 188 dX12_image_131 (by decide) (fun q1 => ?_) (fun q1 => ?_)
    · have h := h.1 q1
      refine V_aload_n C 0 dX12_image_188 rfl ?_
      refine V_callVi (q := (RX12, TX12, 49)) (rest := []) C (nsM_mem (by decide)) (ceM_0 _) rfl (c_X12_tookAll l D cy ad A G  M _ h) (cwV 0 C.1.2.2.2.2 gX12_image_X12_tookAll rfl rfl rfl (by decide +kernel) ⟨by decide, by decide⟩) rfl rfl (Nat.le_of_ble_eq_true rfl) dX12_image_189 (fun r2 M3 h => ?_)
      exact V_iret C hr hlk dX12_image_192 h
    · have h := h.2 q1
      refine V_aload_n C 0 dX12_image_134 rfl ?_
      refine V_get (k0 := 44) (Cn := RX12) (T := TX12) (N := 49) C (nsM_mem (by decide)) rfl iw_X12_image_X12 (by decide) rfl m_X12_image_f96 (ceM_0 _) rfl dX12_image_135 ?_
      refine V_iload_n C 1 dX12_image_138 rfl ?_
      refine V_aload_n C 0 dX12_image_139 rfl ?_
      refine V_get (k0 := 15) (Cn := RX12) (T := TX12) (N := 49) C (nsM_mem (by decide)) rfl iw_X12_image_X12 (by decide) rfl m_X12_image_f34 (ceM_0 _) rfl dX12_image_140 ?_
      refine V_iload_n C 1 dX12_image_143 rfl ?_
      have g5 := h.1
      have h := h.2
      refine V_iald (t0 := 1) (L := 6) C (nsM_mem (by decide)) (fun _ => rfl) rfl g5 dX12_image_144 ?_
      refine V_iast (t0 := 1) (L := 6) C (nsM_mem (by decide)) (fun _ => rfl) rfl g5 dX12_image_145 (fun M6 e7 => ?_)
      have h := h M6 e7
      refine V_aload_n C 0 dX12_image_146 rfl ?_
      refine V_get (k0 := 45) (Cn := RX12) (T := TX12) (N := 49) C (nsM_mem (by decide)) rfl iw_X12_image_X12 (by decide) rfl m_X12_image_f99 (ceM_0 _) rfl dX12_image_147 ?_
      refine V_iload_n C 1 dX12_image_150 rfl ?_
      refine V_aload_n C 0 dX12_image_151 rfl ?_
      refine V_get (k0 := 16) (Cn := RX12) (T := TX12) (N := 49) C (nsM_mem (by decide)) rfl iw_X12_image_X12 (by decide) rfl m_X12_image_f37 (ceM_0 _) rfl dX12_image_152 ?_
      refine V_iload_n C 1 dX12_image_155 rfl ?_
      refine V_iald (t0 := 1) (L := 6) C (nsM_mem (by decide)) (fun _ => rfl) rfl g5 dX12_image_156 ?_
      refine V_iast (t0 := 1) (L := 6) C (nsM_mem (by decide)) (fun _ => rfl) rfl g5 dX12_image_157 (fun M8 e9 => ?_)
      have h := h M8 e9
      refine V_aload_n C 0 dX12_image_158 rfl ?_
      refine V_get (k0 := 46) (Cn := RX12) (T := TX12) (N := 49) C (nsM_mem (by decide)) rfl iw_X12_image_X12 (by decide) rfl m_X12_image_f102 (ceM_0 _) rfl dX12_image_159 ?_
      refine V_iload_n C 1 dX12_image_162 rfl ?_
      refine V_aload_n C 0 dX12_image_163 rfl ?_
      refine V_get (k0 := 17) (Cn := RX12) (T := TX12) (N := 49) C (nsM_mem (by decide)) rfl iw_X12_image_X12 (by decide) rfl m_X12_image_f40 (ceM_0 _) rfl dX12_image_164 ?_
      refine V_iload_n C 1 dX12_image_167 rfl ?_
      refine V_iald (t0 := 1) (L := 6) C (nsM_mem (by decide)) (fun _ => rfl) rfl g5 dX12_image_168 ?_
      refine V_iast (t0 := 1) (L := 6) C (nsM_mem (by decide)) (fun _ => rfl) rfl g5 dX12_image_169 (fun M10 e11 => ?_)
      have h := h M10 e11
      refine V_aload_n C 0 dX12_image_170 rfl ?_
      refine V_get (k0 := 47) (Cn := RX12) (T := TX12) (N := 49) C (nsM_mem (by decide)) rfl iw_X12_image_X12 (by decide) rfl m_X12_image_f105 (ceM_0 _) rfl dX12_image_171 ?_
      refine V_iload_n C 1 dX12_image_174 rfl ?_
      refine V_aload_n C 0 dX12_image_175 rfl ?_
      refine V_get (k0 := 18) (Cn := RX12) (T := TX12) (N := 49) C (nsM_mem (by decide)) rfl iw_X12_image_X12 (by decide) rfl m_X12_image_f43 (ceM_0 _) rfl dX12_image_176 ?_
      refine V_iload_n C 1 dX12_image_179 rfl ?_
      refine V_iald (t0 := 1) (L := 6) C (nsM_mem (by decide)) (fun _ => rfl) rfl g5 dX12_image_180 ?_
      refine V_iast (t0 := 1) (L := 6) C (nsM_mem (by decide)) (fun _ => rfl) rfl g5 dX12_image_181 (fun M12 e13 => ?_)
      have h := h M12 e13
      refine V_iinc (v := (v1 + 1)) (lv' := [(1, .int (v1 + 1)), (0, .ref (ad 0))]) C 1 dX12_image_182 rfl rfl (by decide) rfl ?_
      refine V_goto C 128 dX12_image_185 (by decide) ?_
      refine V_drop (lv' := [(0, .ref (ad 0)), (1, .int (v1 + 1))]) [1, 0] rfl ?_
      exact ih (v1 + 1) M12 h 
  have L67 : ∀  (n : Nat) (v1 : Int32) (M : Mm), w_X12_image_67  post  n v1 M → V p l e (rmL 3) s m args below meth c (MQ below (va_Qi post (Wd D (tysC cy) ad nsM (ceM ad cy) ExM) A) args s 0 0 A) D A ad nsM (ceM ad cy) 2 M [(0, .ref (ad 0)), (1, .int v1)] 67 [] := by
    intro  n
    induction n with
    | zero => intro v1 M h; exact h.elim
    | succ n ih =>
    intro v1 M h 
    unfold w_X12_image_67 at h
    refine V_iload_n C 1 dX12_image_67 rfl ?_
    refine V_iconst (v := (5 : Int32)) C dX12_image_68 (by decide) ?_
    refine V_icmp_ge C 126 dX12_image_69 (by decide) (fun q14 => ?_) (fun q14 => ?_)
    · have h := h.1 q14
      refine V_iconst (v := (0 : Int32)) C dX12_image_126 (by decide) ?_
      refine V_istore_n (lv' := [(1, .int (0 : Int32)), (0, .ref (ad 0))]) C dX12_image_127 rfl (by decide) rfl ?_
      refine V_drop (lv' := [(0, .ref (ad 0)), (1, .int (0 : Int32))]) [1, 0] rfl ?_
      obtain ⟨n0, h⟩ := h
      exact L128  n0 (0 : Int32) M h 
    · have h := h.2 q14
      refine V_aload_n C 0 dX12_image_72 rfl ?_
      refine V_get (k0 := 40) (Cn := RX12) (T := TX12) (N := 49) C (nsM_mem (by decide)) rfl iw_X12_image_X12 (by decide) rfl m_X12_image_f84 (ceM_0 _) rfl dX12_image_73 ?_
      refine V_iload_n C 1 dX12_image_76 rfl ?_
      refine V_aload_n C 0 dX12_image_77 rfl ?_
      refine V_get (k0 := 8) (Cn := RX12) (T := TX12) (N := 49) C (nsM_mem (by decide)) rfl iw_X12_image_X12 (by decide) rfl m_X12_image_f22 (ceM_0 _) rfl dX12_image_78 ?_
      refine V_iload_n C 1 dX12_image_81 rfl ?_
      have g15 := h.1
      have h := h.2
      refine V_iald (t0 := 1) (L := 5) C (nsM_mem (by decide)) (fun _ => rfl) rfl g15 dX12_image_82 ?_
      refine V_iast (t0 := 1) (L := 5) C (nsM_mem (by decide)) (fun _ => rfl) rfl g15 dX12_image_83 (fun M16 e17 => ?_)
      have h := h M16 e17
      refine V_aload_n C 0 dX12_image_84 rfl ?_
      refine V_get (k0 := 41) (Cn := RX12) (T := TX12) (N := 49) C (nsM_mem (by decide)) rfl iw_X12_image_X12 (by decide) rfl m_X12_image_f87 (ceM_0 _) rfl dX12_image_85 ?_
      refine V_iload_n C 1 dX12_image_88 rfl ?_
      refine V_aload_n C 0 dX12_image_89 rfl ?_
      refine V_get (k0 := 9) (Cn := RX12) (T := TX12) (N := 49) C (nsM_mem (by decide)) rfl iw_X12_image_X12 (by decide) rfl m_X12_image_f25 (ceM_0 _) rfl dX12_image_90 ?_
      refine V_iload_n C 1 dX12_image_93 rfl ?_
      refine V_iald (t0 := 1) (L := 5) C (nsM_mem (by decide)) (fun _ => rfl) rfl g15 dX12_image_94 ?_
      refine V_iast (t0 := 1) (L := 5) C (nsM_mem (by decide)) (fun _ => rfl) rfl g15 dX12_image_95 (fun M18 e19 => ?_)
      have h := h M18 e19
      refine V_aload_n C 0 dX12_image_96 rfl ?_
      refine V_get (k0 := 42) (Cn := RX12) (T := TX12) (N := 49) C (nsM_mem (by decide)) rfl iw_X12_image_X12 (by decide) rfl m_X12_image_f90 (ceM_0 _) rfl dX12_image_97 ?_
      refine V_iload_n C 1 dX12_image_100 rfl ?_
      refine V_aload_n C 0 dX12_image_101 rfl ?_
      refine V_get (k0 := 10) (Cn := RX12) (T := TX12) (N := 49) C (nsM_mem (by decide)) rfl iw_X12_image_X12 (by decide) rfl m_X12_image_f28 (ceM_0 _) rfl dX12_image_102 ?_
      refine V_iload_n C 1 dX12_image_105 rfl ?_
      refine V_iald (t0 := 1) (L := 5) C (nsM_mem (by decide)) (fun _ => rfl) rfl g15 dX12_image_106 ?_
      refine V_iast (t0 := 1) (L := 5) C (nsM_mem (by decide)) (fun _ => rfl) rfl g15 dX12_image_107 (fun M20 e21 => ?_)
      have h := h M20 e21
      refine V_aload_n C 0 dX12_image_108 rfl ?_
      refine V_get (k0 := 43) (Cn := RX12) (T := TX12) (N := 49) C (nsM_mem (by decide)) rfl iw_X12_image_X12 (by decide) rfl m_X12_image_f93 (ceM_0 _) rfl dX12_image_109 ?_
      refine V_iload_n C 1 dX12_image_112 rfl ?_
      refine V_aload_n C 0 dX12_image_113 rfl ?_
      refine V_get (k0 := 11) (Cn := RX12) (T := TX12) (N := 49) C (nsM_mem (by decide)) rfl iw_X12_image_X12 (by decide) rfl m_X12_image_f31 (ceM_0 _) rfl dX12_image_114 ?_
      refine V_iload_n C 1 dX12_image_117 rfl ?_
      refine V_iald (t0 := 1) (L := 5) C (nsM_mem (by decide)) (fun _ => rfl) rfl g15 dX12_image_118 ?_
      refine V_iast (t0 := 1) (L := 5) C (nsM_mem (by decide)) (fun _ => rfl) rfl g15 dX12_image_119 (fun M22 e23 => ?_)
      have h := h M22 e23
      refine V_iinc (v := (v1 + 1)) (lv' := [(1, .int (v1 + 1)), (0, .ref (ad 0))]) C 1 dX12_image_120 rfl rfl (by decide) rfl ?_
      refine V_goto C 67 dX12_image_123 (by decide) ?_
      refine V_drop (lv' := [(0, .ref (ad 0)), (1, .int (v1 + 1))]) [1, 0] rfl ?_
      exact ih (v1 + 1) M22 h 
  have L41 : ∀  (n : Nat) (v1 : Int32) (M : Mm), w_X12_image_41  post  n v1 M → V p l e (rmL 3) s m args below meth c (MQ below (va_Qi post (Wd D (tysC cy) ad nsM (ceM ad cy) ExM) A) args s 0 0 A) D A ad nsM (ceM ad cy) 2 M [(0, .ref (ad 0)), (1, .int v1)] 41 [] := by
    intro  n
    induction n with
    | zero => intro v1 M h; exact h.elim
    | succ n ih =>
    intro v1 M h 
    unfold w_X12_image_41 at h
    refine V_iload_n C 1 dX12_image_41 rfl ?_
    refine V_bipush (v := (7 : Int32)) C dX12_image_42 (by decide) ?_
    refine V_icmp_ge C 65 dX12_image_44 (by decide) (fun q24 => ?_) (fun q24 => ?_)
    · have h := h.1 q24
      refine V_iconst (v := (0 : Int32)) C dX12_image_65 (by decide) ?_
      refine V_istore_n (lv' := [(1, .int (0 : Int32)), (0, .ref (ad 0))]) C dX12_image_66 rfl (by decide) rfl ?_
      refine V_drop (lv' := [(0, .ref (ad 0)), (1, .int (0 : Int32))]) [1, 0] rfl ?_
      obtain ⟨n0, h⟩ := h
      exact L67  n0 (0 : Int32) M h 
    · have h := h.2 q24
      refine V_aload_n C 0 dX12_image_47 rfl ?_
      refine V_get (k0 := 39) (Cn := RX12) (T := TX12) (N := 49) C (nsM_mem (by decide)) rfl iw_X12_image_X12 (by decide) rfl m_X12_image_f81 (ceM_0 _) rfl dX12_image_48 ?_
      refine V_iload_n C 1 dX12_image_51 rfl ?_
      refine V_aload_n C 0 dX12_image_52 rfl ?_
      refine V_get (k0 := 6) (Cn := RX12) (T := TX12) (N := 49) C (nsM_mem (by decide)) rfl iw_X12_image_X12 (by decide) rfl m_X12_image_f16 (ceM_0 _) rfl dX12_image_53 ?_
      refine V_iload_n C 1 dX12_image_56 rfl ?_
      have g25 := h.1
      have h := h.2
      refine V_iald (t0 := 1) (L := 7) C (nsM_mem (by decide)) (fun _ => rfl) rfl g25 dX12_image_57 ?_
      refine V_iast (t0 := 1) (L := 7) C (nsM_mem (by decide)) (fun _ => rfl) rfl g25 dX12_image_58 (fun M26 e27 => ?_)
      have h := h M26 e27
      refine V_iinc (v := (v1 + 1)) (lv' := [(1, .int (v1 + 1)), (0, .ref (ad 0))]) C 1 dX12_image_59 rfl rfl (by decide) rfl ?_
      refine V_goto C 41 dX12_image_62 (by decide) ?_
      refine V_drop (lv' := [(0, .ref (ad 0)), (1, .int (v1 + 1))]) [1, 0] rfl ?_
      exact ih (v1 + 1) M26 h 
  unfold w_X12_image at h
  refine V_aload_n C 0 dX12_image_0 rfl ?_
  refine V_get (k0 := 3) (Cn := RX12) (T := TX12) (N := 49) C (nsM_mem (by decide)) rfl iw_X12_image_X12 (by decide) rfl m_X12_image_f156 (ceM_0 _) rfl dX12_image_1 ?_
  refine V_if_ne C 10 dX12_image_4 (by decide) (fun q28 => ?_) (fun q28 => ?_)
  · have h := h.1 q28
    refine V_aload_n C 0 dX12_image_10 rfl ?_
    refine V_iconst (v := (1 : Int32)) C dX12_image_11 (by decide) ?_
    refine V_putI (k0 := 35) (Cn := RX12) (T := TX12) (N := 49) C (nsM_mem (by decide)) rfl iw_X12_image_X12 (by decide) rfl m_X12_image_f309 tyX12_ok nmX12 rfl (show _ = some FieldType.boolean by decide +kernel) (nz_n (Or.inr rfl)) (nz_f (Or.inr rfl)) (Nat.le_of_ble_eq_true rfl) (ceM_0 _) (stM0_35  _ _) dX12_image_12 (fun M29 e30 => ?_)
    have h := h M29 e30
    refine V_aload_n C 0 dX12_image_15 rfl ?_
    refine V_aload_n C 0 dX12_image_16 rfl ?_
    refine V_get (k0 := 0) (Cn := RX12) (T := TX12) (N := 49) C (nsM_mem (by decide)) rfl iw_X12_image_X12 (by decide) rfl m_X12_image_f162 (ceM_0 _) rfl dX12_image_17 ?_
    refine V_putI (k0 := 36) (Cn := RX12) (T := TX12) (N := 49) C (nsM_mem (by decide)) rfl iw_X12_image_X12 (by decide) rfl m_X12_image_f312 tyX12_ok nmX12 rfl (show _ = some FieldType.int by decide +kernel) rfl rfl (Nat.le_of_ble_eq_true rfl) (ceM_0 _) (stM0_36  _ _) dX12_image_20 (fun M31 e32 => ?_)
    have h := h M31 e32
    refine V_aload_n C 0 dX12_image_23 rfl ?_
    refine V_aload_n C 0 dX12_image_24 rfl ?_
    refine V_get (k0 := 12) (Cn := RX12) (T := TX12) (N := 49) C (nsM_mem (by decide)) rfl iw_X12_image_X12 (by decide) rfl m_X12_image_f159 (ceM_0 _) rfl dX12_image_25 ?_
    refine V_putI (k0 := 37) (Cn := RX12) (T := TX12) (N := 49) C (nsM_mem (by decide)) rfl iw_X12_image_X12 (by decide) rfl m_X12_image_f315 tyX12_ok nmX12 rfl (show _ = some FieldType.int by decide +kernel) rfl rfl (Nat.le_of_ble_eq_true rfl) (ceM_0 _) (stM0_37  _ _) dX12_image_28 (fun M33 e34 => ?_)
    have h := h M33 e34
    refine V_aload_n C 0 dX12_image_31 rfl ?_
    refine V_aload_n C 0 dX12_image_32 rfl ?_
    refine V_get (k0 := 14) (Cn := RX12) (T := TX12) (N := 49) C (nsM_mem (by decide)) rfl iw_X12_image_X12 (by decide) rfl m_X12_image_f165 (ceM_0 _) rfl dX12_image_33 ?_
    refine V_putI (k0 := 38) (Cn := RX12) (T := TX12) (N := 49) C (nsM_mem (by decide)) rfl iw_X12_image_X12 (by decide) rfl m_X12_image_f318 tyX12_ok nmX12 rfl (show _ = some FieldType.int by decide +kernel) rfl rfl (Nat.le_of_ble_eq_true rfl) (ceM_0 _) (stM0_38  _ _) dX12_image_36 (fun M35 e36 => ?_)
    have h := h M35 e36
    refine V_iconst (v := (0 : Int32)) C dX12_image_39 (by decide) ?_
    refine V_istore_n (lv' := [(1, .int (0 : Int32)), (0, .ref (ad 0))]) C dX12_image_40 rfl (by decide) rfl ?_
    refine V_drop (lv' := [(0, .ref (ad 0)), (1, .int (0 : Int32))]) [1, 0] rfl ?_
    obtain ⟨n0, h⟩ := h
    exact L41  n0 (0 : Int32) M35 h 
  · have h := h.2 q28
    refine V_bipush (v := (-103 : Int32)) C dX12_image_7 (by decide) ?_
    exact V_iret C hr hlk dX12_image_9 h
def w_X12_restore_126  (post : Int32 → Mm → Prop)  : Nat → Int32 → Mm → Prop
  | 0 => fun _ _ => False
  | n + 1 => fun v1 M =>
    (((6 : Int32) ≤ v1) → (w_X12_tookAll  M (fun r2 M3 => post r2 M3))) ∧ ((¬ (6 : Int32) ≤ v1) → ((vp_in v1 6) ∧ (∀ M6 : Mm, M6 = wI M 9 (upd (M.1 9) v1.toNatClampNeg (M.1 29 v1.toNatClampNeg)) → (∀ M8 : Mm, M8 = wI M6 10 (upd (M6.1 10) v1.toNatClampNeg (M6.1 30 v1.toNatClampNeg)) → (∀ M10 : Mm, M10 = wI M8 11 (upd (M8.1 11) v1.toNatClampNeg (M8.1 31 v1.toNatClampNeg)) → (∀ M12 : Mm, M12 = wI M10 12 (upd (M10.1 12) v1.toNatClampNeg (M10.1 32 v1.toNatClampNeg)) → (w_X12_restore_126  post  n (v1 + 1) M12)))))))
def w_X12_restore_65  (post : Int32 → Mm → Prop)  : Nat → Int32 → Mm → Prop
  | 0 => fun _ _ => False
  | n + 1 => fun v1 M =>
    (((5 : Int32) ≤ v1) → (∃ n0 : Nat, w_X12_restore_126  post  n0 (0 : Int32) M)) ∧ ((¬ (5 : Int32) ≤ v1) → ((vp_in v1 5) ∧ (∀ M16 : Mm, M16 = wI M 5 (upd (M.1 5) v1.toNatClampNeg (M.1 25 v1.toNatClampNeg)) → (∀ M18 : Mm, M18 = wI M16 6 (upd (M16.1 6) v1.toNatClampNeg (M16.1 26 v1.toNatClampNeg)) → (∀ M20 : Mm, M20 = wI M18 7 (upd (M18.1 7) v1.toNatClampNeg (M18.1 27 v1.toNatClampNeg)) → (∀ M22 : Mm, M22 = wI M20 8 (upd (M20.1 8) v1.toNatClampNeg (M20.1 28 v1.toNatClampNeg)) → (w_X12_restore_65  post  n (v1 + 1) M22)))))))
def w_X12_restore_39  (post : Int32 → Mm → Prop)  : Nat → Int32 → Mm → Prop
  | 0 => fun _ _ => False
  | n + 1 => fun v1 M =>
    (((7 : Int32) ≤ v1) → (∃ n0 : Nat, w_X12_restore_65  post  n0 (0 : Int32) M)) ∧ ((¬ (7 : Int32) ≤ v1) → ((vp_in v1 7) ∧ (∀ M26 : Mm, M26 = wI M 3 (upd (M.1 3) v1.toNatClampNeg (M.1 24 v1.toNatClampNeg)) → (w_X12_restore_39  post  n (v1 + 1) M26))))
def w_X12_restore  (M : Mm) (post : Int32 → Mm → Prop) : Prop :=
  (((M.1 0 35) = 0) → (post (-103 : Int32) M)) ∧ ((¬ (M.1 0 35) = 0) → ((((M.1 0 36) = (M.1 0 0)) → (∀ M30 : Mm, M30 = wI M 0 (upd (M.1 0) 12 (M.1 0 37)) → (∀ M32 : Mm, M32 = wI M30 0 (upd (M30.1 0) 14 (M30.1 0 38)) → (∃ n0 : Nat, w_X12_restore_39  post  n0 (0 : Int32) M32)))) ∧ ((¬ (M.1 0 36) = (M.1 0 0)) → (post (-103 : Int32) M))))
theorem iw_X12_restore_X12 : ∀ w ∈ u_ws RX12 TX12 49, w ∈ wsX12_restore := by decide +kernel
theorem m_X12_restore_f34 : Cond.fieldLink RX12 34 "ShameYardsModel" "seenPerson" "[I" ∈ wsX12_restore := by decide +kernel
theorem m_X12_restore_f96 : Cond.fieldLink RX12 96 "ShameYardsModel" "keptPerson" "[I" ∈ wsX12_restore := by decide +kernel
theorem m_X12_restore_f37 : Cond.fieldLink RX12 37 "ShameYardsModel" "seenPassage" "[I" ∈ wsX12_restore := by decide +kernel
theorem m_X12_restore_f99 : Cond.fieldLink RX12 99 "ShameYardsModel" "keptPassage" "[I" ∈ wsX12_restore := by decide +kernel
theorem m_X12_restore_f40 : Cond.fieldLink RX12 40 "ShameYardsModel" "seenWith" "[I" ∈ wsX12_restore := by decide +kernel
theorem m_X12_restore_f102 : Cond.fieldLink RX12 102 "ShameYardsModel" "keptWith" "[I" ∈ wsX12_restore := by decide +kernel
theorem m_X12_restore_f43 : Cond.fieldLink RX12 43 "ShameYardsModel" "seenSteps" "[I" ∈ wsX12_restore := by decide +kernel
theorem m_X12_restore_f105 : Cond.fieldLink RX12 105 "ShameYardsModel" "keptSteps" "[I" ∈ wsX12_restore := by decide +kernel
theorem m_X12_restore_f22 : Cond.fieldLink RX12 22 "ShameYardsModel" "deedsOf" "[I" ∈ wsX12_restore := by decide +kernel
theorem m_X12_restore_f84 : Cond.fieldLink RX12 84 "ShameYardsModel" "keptDeeds" "[I" ∈ wsX12_restore := by decide +kernel
theorem m_X12_restore_f25 : Cond.fieldLink RX12 25 "ShameYardsModel" "liesOf" "[I" ∈ wsX12_restore := by decide +kernel
theorem m_X12_restore_f87 : Cond.fieldLink RX12 87 "ShameYardsModel" "keptLies" "[I" ∈ wsX12_restore := by decide +kernel
theorem m_X12_restore_f28 : Cond.fieldLink RX12 28 "ShameYardsModel" "roomOf" "[I" ∈ wsX12_restore := by decide +kernel
theorem m_X12_restore_f90 : Cond.fieldLink RX12 90 "ShameYardsModel" "keptRoom" "[I" ∈ wsX12_restore := by decide +kernel
theorem m_X12_restore_f31 : Cond.fieldLink RX12 31 "ShameYardsModel" "tookOf" "[I" ∈ wsX12_restore := by decide +kernel
theorem m_X12_restore_f93 : Cond.fieldLink RX12 93 "ShameYardsModel" "keptTook" "[I" ∈ wsX12_restore := by decide +kernel
theorem m_X12_restore_f16 : Cond.fieldLink RX12 16 "ShameYardsModel" "lengthOf" "[I" ∈ wsX12_restore := by decide +kernel
theorem m_X12_restore_f81 : Cond.fieldLink RX12 81 "ShameYardsModel" "keptLength" "[I" ∈ wsX12_restore := by decide +kernel
theorem m_X12_restore_f309 : Cond.fieldLink RX12 309 "ShameYardsModel" "isKept" "Z" ∈ wsX12_restore := by decide +kernel
theorem m_X12_restore_f312 : Cond.fieldLink RX12 312 "ShameYardsModel" "keptMinistry" "I" ∈ wsX12_restore := by decide +kernel
theorem m_X12_restore_f162 : Cond.fieldLink RX12 162 "ShameYardsModel" "ministries" "I" ∈ wsX12_restore := by decide +kernel
theorem m_X12_restore_f315 : Cond.fieldLink RX12 315 "ShameYardsModel" "keptTogether" "I" ∈ wsX12_restore := by decide +kernel
theorem m_X12_restore_f159 : Cond.fieldLink RX12 159 "ShameYardsModel" "together" "I" ∈ wsX12_restore := by decide +kernel
theorem m_X12_restore_f318 : Cond.fieldLink RX12 318 "ShameYardsModel" "keptSeen" "I" ∈ wsX12_restore := by decide +kernel
theorem m_X12_restore_f165 : Cond.fieldLink RX12 165 "ShameYardsModel" "seen" "I" ∈ wsX12_restore := by decide +kernel
set_option maxHeartbeats 4000000 in
set_option maxRecDepth 100000 in
theorem c_X12_restore (l : Launch) (D : va_G) (cy : Nat → ClassId) (ad : Nat → Nat) (A : Nat → Prop) (G : Gd A ad nsM)    (M : Mm) (post : Int32 → Mm → Prop) (h : w_X12_restore  M post) : CI l yX12_restore wsX12_restore (rmL 3) D (tysC cy) A ad nsM (ceM ad cy) ExM [.ref (ad 0)] M post := by
  refine Met_V (cc := cX12_restore) (maxL := 2) (ret := (some .int)) (by decide) rfl G Lo_M ExM_ok (Nat.le_of_ble_eq_true rfl) rfl ?_
  intro p e s m args below meth c C hr hlk
  have C : Cx p s m args c cX12_restore 2 RX12 wsX12_restore D (tysC cy) A ad nsM (ceM ad cy) ExM := C
  have L126 : ∀  (n : Nat) (v1 : Int32) (M : Mm), w_X12_restore_126  post  n v1 M → V p l e (rmL 3) s m args below meth c (MQ below (va_Qi post (Wd D (tysC cy) ad nsM (ceM ad cy) ExM) A) args s 0 0 A) D A ad nsM (ceM ad cy) 2 M [(0, .ref (ad 0)), (1, .int v1)] 126 [] := by
    intro  n
    induction n with
    | zero => intro v1 M h; exact h.elim
    | succ n ih =>
    intro v1 M h 
    unfold w_X12_restore_126 at h
    refine V_iload_n C 1 dX12_restore_126 rfl ?_
    refine V_bipush (v := (6 : Int32)) C dX12_restore_127 (by decide) ?_
    refine V_icmp_ge C 186 dX12_restore_129 (by decide) (fun q1 => ?_) (fun q1 => ?_)
    · have h := h.1 q1
      refine V_aload_n C 0 dX12_restore_186 rfl ?_
      refine V_callVi (q := (RX12, TX12, 49)) (rest := []) C (nsM_mem (by decide)) (ceM_0 _) rfl (c_X12_tookAll l D cy ad A G  M _ h) (cwV 0 C.1.2.2.2.2 gX12_restore_X12_tookAll rfl rfl rfl (by decide +kernel) ⟨by decide, by decide⟩) rfl rfl (Nat.le_of_ble_eq_true rfl) dX12_restore_187 (fun r2 M3 h => ?_)
      exact V_iret C hr hlk dX12_restore_190 h
    · have h := h.2 q1
      refine V_aload_n C 0 dX12_restore_132 rfl ?_
      refine V_get (k0 := 15) (Cn := RX12) (T := TX12) (N := 49) C (nsM_mem (by decide)) rfl iw_X12_restore_X12 (by decide) rfl m_X12_restore_f34 (ceM_0 _) rfl dX12_restore_133 ?_
      refine V_iload_n C 1 dX12_restore_136 rfl ?_
      refine V_aload_n C 0 dX12_restore_137 rfl ?_
      refine V_get (k0 := 44) (Cn := RX12) (T := TX12) (N := 49) C (nsM_mem (by decide)) rfl iw_X12_restore_X12 (by decide) rfl m_X12_restore_f96 (ceM_0 _) rfl dX12_restore_138 ?_
      refine V_iload_n C 1 dX12_restore_141 rfl ?_
      have g5 := h.1
      have h := h.2
      refine V_iald (t0 := 1) (L := 6) C (nsM_mem (by decide)) (fun _ => rfl) rfl g5 dX12_restore_142 ?_
      refine V_iast (t0 := 1) (L := 6) C (nsM_mem (by decide)) (fun _ => rfl) rfl g5 dX12_restore_143 (fun M6 e7 => ?_)
      have h := h M6 e7
      refine V_aload_n C 0 dX12_restore_144 rfl ?_
      refine V_get (k0 := 16) (Cn := RX12) (T := TX12) (N := 49) C (nsM_mem (by decide)) rfl iw_X12_restore_X12 (by decide) rfl m_X12_restore_f37 (ceM_0 _) rfl dX12_restore_145 ?_
      refine V_iload_n C 1 dX12_restore_148 rfl ?_
      refine V_aload_n C 0 dX12_restore_149 rfl ?_
      refine V_get (k0 := 45) (Cn := RX12) (T := TX12) (N := 49) C (nsM_mem (by decide)) rfl iw_X12_restore_X12 (by decide) rfl m_X12_restore_f99 (ceM_0 _) rfl dX12_restore_150 ?_
      refine V_iload_n C 1 dX12_restore_153 rfl ?_
      refine V_iald (t0 := 1) (L := 6) C (nsM_mem (by decide)) (fun _ => rfl) rfl g5 dX12_restore_154 ?_
      refine V_iast (t0 := 1) (L := 6) C (nsM_mem (by decide)) (fun _ => rfl) rfl g5 dX12_restore_155 (fun M8 e9 => ?_)
      have h := h M8 e9
      refine V_aload_n C 0 dX12_restore_156 rfl ?_
      refine V_get (k0 := 17) (Cn := RX12) (T := TX12) (N := 49) C (nsM_mem (by decide)) rfl iw_X12_restore_X12 (by decide) rfl m_X12_restore_f40 (ceM_0 _) rfl dX12_restore_157 ?_
      refine V_iload_n C 1 dX12_restore_160 rfl ?_
      refine V_aload_n C 0 dX12_restore_161 rfl ?_
      refine V_get (k0 := 46) (Cn := RX12) (T := TX12) (N := 49) C (nsM_mem (by decide)) rfl iw_X12_restore_X12 (by decide) rfl m_X12_restore_f102 (ceM_0 _) rfl dX12_restore_162 ?_
      refine V_iload_n C 1 dX12_restore_165 rfl ?_
      refine V_iald (t0 := 1) (L := 6) C (nsM_mem (by decide)) (fun _ => rfl) rfl g5 dX12_restore_166 ?_
      refine V_iast (t0 := 1) (L := 6) C (nsM_mem (by decide)) (fun _ => rfl) rfl g5 dX12_restore_167 (fun M10 e11 => ?_)
      have h := h M10 e11
      refine V_aload_n C 0 dX12_restore_168 rfl ?_
      refine V_get (k0 := 18) (Cn := RX12) (T := TX12) (N := 49) C (nsM_mem (by decide)) rfl iw_X12_restore_X12 (by decide) rfl m_X12_restore_f43 (ceM_0 _) rfl dX12_restore_169 ?_
      refine V_iload_n C 1 dX12_restore_172 rfl ?_
      refine V_aload_n C 0 dX12_restore_173 rfl ?_
      refine V_get (k0 := 47) (Cn := RX12) (T := TX12) (N := 49) C (nsM_mem (by decide)) rfl iw_X12_restore_X12 (by decide) rfl m_X12_restore_f105 (ceM_0 _) rfl dX12_restore_174 ?_
      refine V_iload_n C 1 dX12_restore_177 rfl ?_
      refine V_iald (t0 := 1) (L := 6) C (nsM_mem (by decide)) (fun _ => rfl) rfl g5 dX12_restore_178 ?_
      refine V_iast (t0 := 1) (L := 6) C (nsM_mem (by decide)) (fun _ => rfl) rfl g5 dX12_restore_179 (fun M12 e13 => ?_)
      have h := h M12 e13
      refine V_iinc (v := (v1 + 1)) (lv' := [(1, .int (v1 + 1)), (0, .ref (ad 0))]) C 1 dX12_restore_180 rfl rfl (by decide) rfl ?_
      refine V_goto C 126 dX12_restore_183 (by decide) ?_
      refine V_drop (lv' := [(0, .ref (ad 0)), (1, .int (v1 + 1))]) [1, 0] rfl ?_
      exact ih (v1 + 1) M12 h 
  have L65 : ∀  (n : Nat) (v1 : Int32) (M : Mm), w_X12_restore_65  post  n v1 M → V p l e (rmL 3) s m args below meth c (MQ below (va_Qi post (Wd D (tysC cy) ad nsM (ceM ad cy) ExM) A) args s 0 0 A) D A ad nsM (ceM ad cy) 2 M [(0, .ref (ad 0)), (1, .int v1)] 65 [] := by
    intro  n
    induction n with
    | zero => intro v1 M h; exact h.elim
    | succ n ih =>
    intro v1 M h 
    unfold w_X12_restore_65 at h
    refine V_iload_n C 1 dX12_restore_65 rfl ?_
    refine V_iconst (v := (5 : Int32)) C dX12_restore_66 (by decide) ?_
    refine V_icmp_ge C 124 dX12_restore_67 (by decide) (fun q14 => ?_) (fun q14 => ?_)
    · have h := h.1 q14
      refine V_iconst (v := (0 : Int32)) C dX12_restore_124 (by decide) ?_
      refine V_istore_n (lv' := [(1, .int (0 : Int32)), (0, .ref (ad 0))]) C dX12_restore_125 rfl (by decide) rfl ?_
      refine V_drop (lv' := [(0, .ref (ad 0)), (1, .int (0 : Int32))]) [1, 0] rfl ?_
      obtain ⟨n0, h⟩ := h
      exact L126  n0 (0 : Int32) M h 
    · have h := h.2 q14
      refine V_aload_n C 0 dX12_restore_70 rfl ?_
      refine V_get (k0 := 8) (Cn := RX12) (T := TX12) (N := 49) C (nsM_mem (by decide)) rfl iw_X12_restore_X12 (by decide) rfl m_X12_restore_f22 (ceM_0 _) rfl dX12_restore_71 ?_
      refine V_iload_n C 1 dX12_restore_74 rfl ?_
      refine V_aload_n C 0 dX12_restore_75 rfl ?_
      refine V_get (k0 := 40) (Cn := RX12) (T := TX12) (N := 49) C (nsM_mem (by decide)) rfl iw_X12_restore_X12 (by decide) rfl m_X12_restore_f84 (ceM_0 _) rfl dX12_restore_76 ?_
      refine V_iload_n C 1 dX12_restore_79 rfl ?_
      have g15 := h.1
      have h := h.2
      refine V_iald (t0 := 1) (L := 5) C (nsM_mem (by decide)) (fun _ => rfl) rfl g15 dX12_restore_80 ?_
      refine V_iast (t0 := 1) (L := 5) C (nsM_mem (by decide)) (fun _ => rfl) rfl g15 dX12_restore_81 (fun M16 e17 => ?_)
      have h := h M16 e17
      refine V_aload_n C 0 dX12_restore_82 rfl ?_
      refine V_get (k0 := 9) (Cn := RX12) (T := TX12) (N := 49) C (nsM_mem (by decide)) rfl iw_X12_restore_X12 (by decide) rfl m_X12_restore_f25 (ceM_0 _) rfl dX12_restore_83 ?_
      refine V_iload_n C 1 dX12_restore_86 rfl ?_
      refine V_aload_n C 0 dX12_restore_87 rfl ?_
      refine V_get (k0 := 41) (Cn := RX12) (T := TX12) (N := 49) C (nsM_mem (by decide)) rfl iw_X12_restore_X12 (by decide) rfl m_X12_restore_f87 (ceM_0 _) rfl dX12_restore_88 ?_
      refine V_iload_n C 1 dX12_restore_91 rfl ?_
      refine V_iald (t0 := 1) (L := 5) C (nsM_mem (by decide)) (fun _ => rfl) rfl g15 dX12_restore_92 ?_
      refine V_iast (t0 := 1) (L := 5) C (nsM_mem (by decide)) (fun _ => rfl) rfl g15 dX12_restore_93 (fun M18 e19 => ?_)
      have h := h M18 e19
      refine V_aload_n C 0 dX12_restore_94 rfl ?_
      refine V_get (k0 := 10) (Cn := RX12) (T := TX12) (N := 49) C (nsM_mem (by decide)) rfl iw_X12_restore_X12 (by decide) rfl m_X12_restore_f28 (ceM_0 _) rfl dX12_restore_95 ?_
      refine V_iload_n C 1 dX12_restore_98 rfl ?_
      refine V_aload_n C 0 dX12_restore_99 rfl ?_
      refine V_get (k0 := 42) (Cn := RX12) (T := TX12) (N := 49) C (nsM_mem (by decide)) rfl iw_X12_restore_X12 (by decide) rfl m_X12_restore_f90 (ceM_0 _) rfl dX12_restore_100 ?_
      refine V_iload_n C 1 dX12_restore_103 rfl ?_
      refine V_iald (t0 := 1) (L := 5) C (nsM_mem (by decide)) (fun _ => rfl) rfl g15 dX12_restore_104 ?_
      refine V_iast (t0 := 1) (L := 5) C (nsM_mem (by decide)) (fun _ => rfl) rfl g15 dX12_restore_105 (fun M20 e21 => ?_)
      have h := h M20 e21
      refine V_aload_n C 0 dX12_restore_106 rfl ?_
      refine V_get (k0 := 11) (Cn := RX12) (T := TX12) (N := 49) C (nsM_mem (by decide)) rfl iw_X12_restore_X12 (by decide) rfl m_X12_restore_f31 (ceM_0 _) rfl dX12_restore_107 ?_
      refine V_iload_n C 1 dX12_restore_110 rfl ?_
      refine V_aload_n C 0 dX12_restore_111 rfl ?_
      refine V_get (k0 := 43) (Cn := RX12) (T := TX12) (N := 49) C (nsM_mem (by decide)) rfl iw_X12_restore_X12 (by decide) rfl m_X12_restore_f93 (ceM_0 _) rfl dX12_restore_112 ?_
      refine V_iload_n C 1 dX12_restore_115 rfl ?_
      refine V_iald (t0 := 1) (L := 5) C (nsM_mem (by decide)) (fun _ => rfl) rfl g15 dX12_restore_116 ?_
      refine V_iast (t0 := 1) (L := 5) C (nsM_mem (by decide)) (fun _ => rfl) rfl g15 dX12_restore_117 (fun M22 e23 => ?_)
      have h := h M22 e23
      refine V_iinc (v := (v1 + 1)) (lv' := [(1, .int (v1 + 1)), (0, .ref (ad 0))]) C 1 dX12_restore_118 rfl rfl (by decide) rfl ?_
      refine V_goto C 65 dX12_restore_121 (by decide) ?_
      refine V_drop (lv' := [(0, .ref (ad 0)), (1, .int (v1 + 1))]) [1, 0] rfl ?_
      exact ih (v1 + 1) M22 h 
  have L39 : ∀  (n : Nat) (v1 : Int32) (M : Mm), w_X12_restore_39  post  n v1 M → V p l e (rmL 3) s m args below meth c (MQ below (va_Qi post (Wd D (tysC cy) ad nsM (ceM ad cy) ExM) A) args s 0 0 A) D A ad nsM (ceM ad cy) 2 M [(0, .ref (ad 0)), (1, .int v1)] 39 [] := by
    intro  n
    induction n with
    | zero => intro v1 M h; exact h.elim
    | succ n ih =>
    intro v1 M h 
    unfold w_X12_restore_39 at h
    refine V_iload_n C 1 dX12_restore_39 rfl ?_
    refine V_bipush (v := (7 : Int32)) C dX12_restore_40 (by decide) ?_
    refine V_icmp_ge C 63 dX12_restore_42 (by decide) (fun q24 => ?_) (fun q24 => ?_)
    · have h := h.1 q24
      refine V_iconst (v := (0 : Int32)) C dX12_restore_63 (by decide) ?_
      refine V_istore_n (lv' := [(1, .int (0 : Int32)), (0, .ref (ad 0))]) C dX12_restore_64 rfl (by decide) rfl ?_
      refine V_drop (lv' := [(0, .ref (ad 0)), (1, .int (0 : Int32))]) [1, 0] rfl ?_
      obtain ⟨n0, h⟩ := h
      exact L65  n0 (0 : Int32) M h 
    · have h := h.2 q24
      refine V_aload_n C 0 dX12_restore_45 rfl ?_
      refine V_get (k0 := 6) (Cn := RX12) (T := TX12) (N := 49) C (nsM_mem (by decide)) rfl iw_X12_restore_X12 (by decide) rfl m_X12_restore_f16 (ceM_0 _) rfl dX12_restore_46 ?_
      refine V_iload_n C 1 dX12_restore_49 rfl ?_
      refine V_aload_n C 0 dX12_restore_50 rfl ?_
      refine V_get (k0 := 39) (Cn := RX12) (T := TX12) (N := 49) C (nsM_mem (by decide)) rfl iw_X12_restore_X12 (by decide) rfl m_X12_restore_f81 (ceM_0 _) rfl dX12_restore_51 ?_
      refine V_iload_n C 1 dX12_restore_54 rfl ?_
      have g25 := h.1
      have h := h.2
      refine V_iald (t0 := 1) (L := 7) C (nsM_mem (by decide)) (fun _ => rfl) rfl g25 dX12_restore_55 ?_
      refine V_iast (t0 := 1) (L := 7) C (nsM_mem (by decide)) (fun _ => rfl) rfl g25 dX12_restore_56 (fun M26 e27 => ?_)
      have h := h M26 e27
      refine V_iinc (v := (v1 + 1)) (lv' := [(1, .int (v1 + 1)), (0, .ref (ad 0))]) C 1 dX12_restore_57 rfl rfl (by decide) rfl ?_
      refine V_goto C 39 dX12_restore_60 (by decide) ?_
      refine V_drop (lv' := [(0, .ref (ad 0)), (1, .int (v1 + 1))]) [1, 0] rfl ?_
      exact ih (v1 + 1) M26 h 
  unfold w_X12_restore at h
  refine V_aload_n C 0 dX12_restore_0 rfl ?_
  refine V_get (k0 := 35) (Cn := RX12) (T := TX12) (N := 49) C (nsM_mem (by decide)) rfl iw_X12_restore_X12 (by decide) rfl m_X12_restore_f309 (ceM_0 _) rfl dX12_restore_1 ?_
  refine V_if_eq C 18 dX12_restore_4 (by decide) (fun q28 => ?_) (fun q28 => ?_)
  · have h := h.1 q28
    refine V_bipush (v := (-103 : Int32)) C dX12_restore_18 (by decide) ?_
    exact V_iret C hr hlk dX12_restore_20 h
  · have h := h.2 q28
    refine V_aload_n C 0 dX12_restore_7 rfl ?_
    refine V_get (k0 := 36) (Cn := RX12) (T := TX12) (N := 49) C (nsM_mem (by decide)) rfl iw_X12_restore_X12 (by decide) rfl m_X12_restore_f312 (ceM_0 _) rfl dX12_restore_8 ?_
    refine V_aload_n C 0 dX12_restore_11 rfl ?_
    refine V_get (k0 := 0) (Cn := RX12) (T := TX12) (N := 49) C (nsM_mem (by decide)) rfl iw_X12_restore_X12 (by decide) rfl m_X12_restore_f162 (ceM_0 _) rfl dX12_restore_12 ?_
    refine V_icmp_eq C 21 dX12_restore_15 (by decide) (fun q29 => ?_) (fun q29 => ?_)
    · have h := h.1 q29
      refine V_aload_n C 0 dX12_restore_21 rfl ?_
      refine V_aload_n C 0 dX12_restore_22 rfl ?_
      refine V_get (k0 := 37) (Cn := RX12) (T := TX12) (N := 49) C (nsM_mem (by decide)) rfl iw_X12_restore_X12 (by decide) rfl m_X12_restore_f315 (ceM_0 _) rfl dX12_restore_23 ?_
      refine V_putI (k0 := 12) (Cn := RX12) (T := TX12) (N := 49) C (nsM_mem (by decide)) rfl iw_X12_restore_X12 (by decide) rfl m_X12_restore_f159 tyX12_ok nmX12 rfl (show _ = some FieldType.int by decide +kernel) rfl rfl (Nat.le_of_ble_eq_true rfl) (ceM_0 _) (stM0_12  _ _) dX12_restore_26 (fun M30 e31 => ?_)
      have h := h M30 e31
      refine V_aload_n C 0 dX12_restore_29 rfl ?_
      refine V_aload_n C 0 dX12_restore_30 rfl ?_
      refine V_get (k0 := 38) (Cn := RX12) (T := TX12) (N := 49) C (nsM_mem (by decide)) rfl iw_X12_restore_X12 (by decide) rfl m_X12_restore_f318 (ceM_0 _) rfl dX12_restore_31 ?_
      refine V_putI (k0 := 14) (Cn := RX12) (T := TX12) (N := 49) C (nsM_mem (by decide)) rfl iw_X12_restore_X12 (by decide) rfl m_X12_restore_f165 tyX12_ok nmX12 rfl (show _ = some FieldType.int by decide +kernel) rfl rfl (Nat.le_of_ble_eq_true rfl) (ceM_0 _) (stM0_14  _ _) dX12_restore_34 (fun M32 e33 => ?_)
      have h := h M32 e33
      refine V_iconst (v := (0 : Int32)) C dX12_restore_37 (by decide) ?_
      refine V_istore_n (lv' := [(1, .int (0 : Int32)), (0, .ref (ad 0))]) C dX12_restore_38 rfl (by decide) rfl ?_
      refine V_drop (lv' := [(0, .ref (ad 0)), (1, .int (0 : Int32))]) [1, 0] rfl ?_
      obtain ⟨n0, h⟩ := h
      exact L39  n0 (0 : Int32) M32 h 
    · have h := h.2 q29
      refine V_bipush (v := (-103 : Int32)) C dX12_restore_18 (by decide) ?_
      exact V_iret C hr hlk dX12_restore_20 h
def w_X12_sumOf_4  (post : Int32 → Mm → Prop)  : Nat → Int32 → Int32 → Int32 → Mm → Prop
  | 0 => fun _ _ _ _ => False
  | n + 1 => fun v1 v2 v3 M =>
    (((M.1 0 3) ≤ v3) → (post v2 M)) ∧ ((¬ (M.1 0 3) ≤ v3) → (((v1 = 0) → ((vp_in v3 5) ∧ (w_X12_sumOf_4  post  n v1 (v2 + (M.1 6 v3.toNatClampNeg)) (v3 + 1) M))) ∧ ((¬ v1 = 0) → ((vp_in v3 5) ∧ (w_X12_sumOf_4  post  n v1 (v2 + (M.1 5 v3.toNatClampNeg)) (v3 + 1) M)))))
def w_X12_sumOf (x1 : Int32) (M : Mm) (post : Int32 → Mm → Prop) : Prop :=
  ∃ n0 : Nat, w_X12_sumOf_4  post  n0 x1 (0 : Int32) (0 : Int32) M
theorem iw_X12_sumOf_X12 : ∀ w ∈ u_ws RX12 TX12 49, w ∈ wsX12_sumOf := by decide +kernel
theorem m_X12_sumOf_f156 : Cond.fieldLink RX12 156 "ShameYardsModel" "people" "I" ∈ wsX12_sumOf := by decide +kernel
theorem m_X12_sumOf_f25 : Cond.fieldLink RX12 25 "ShameYardsModel" "liesOf" "[I" ∈ wsX12_sumOf := by decide +kernel
theorem m_X12_sumOf_f22 : Cond.fieldLink RX12 22 "ShameYardsModel" "deedsOf" "[I" ∈ wsX12_sumOf := by decide +kernel
set_option maxHeartbeats 4000000 in
set_option maxRecDepth 100000 in
theorem c_X12_sumOf (l : Launch) (D : va_G) (cy : Nat → ClassId) (ad : Nat → Nat) (A : Nat → Prop) (G : Gd A ad nsM)   (x1 : Int32) (M : Mm) (post : Int32 → Mm → Prop) (h : w_X12_sumOf x1 M post) : CI l yX12_sumOf wsX12_sumOf (rmL 2) D (tysC cy) A ad nsM (ceM ad cy) ExM [.ref (ad 0), .int x1] M post := by
  refine Met_V (cc := cX12_sumOf) (maxL := 4) (ret := (some .int)) (by decide) rfl G Lo_M ExM_ok (Nat.le_of_ble_eq_true rfl) rfl ?_
  intro p e s m args below meth c C hr hlk
  have C : Cx p s m args c cX12_sumOf 4 RX12 wsX12_sumOf D (tysC cy) A ad nsM (ceM ad cy) ExM := C
  have L4 : ∀  (n : Nat) (v1 : Int32) (v2 : Int32) (v3 : Int32) (M : Mm), w_X12_sumOf_4  post  n v1 v2 v3 M → V p l e (rmL 2) s m args below meth c (MQ below (va_Qi post (Wd D (tysC cy) ad nsM (ceM ad cy) ExM) A) args s 0 0 A) D A ad nsM (ceM ad cy) 4 M [(0, .ref (ad 0)), (1, .int v1), (2, .int v2), (3, .int v3)] 4 [] := by
    intro  n
    induction n with
    | zero => intro v1 v2 v3 M h; exact h.elim
    | succ n ih =>
    intro v1 v2 v3 M h 
    unfold w_X12_sumOf_4 at h
    refine V_iload_n C 3 dX12_sumOf_4 rfl ?_
    refine V_aload_n C 0 dX12_sumOf_5 rfl ?_
    refine V_get (k0 := 3) (Cn := RX12) (T := TX12) (N := 49) C (nsM_mem (by decide)) rfl iw_X12_sumOf_X12 (by decide) rfl m_X12_sumOf_f156 (ceM_0 _) rfl dX12_sumOf_6 ?_
    refine V_icmp_ge C 40 dX12_sumOf_9 (by decide) (fun q1 => ?_) (fun q1 => ?_)
    · have h := h.1 q1
      refine V_iload_n C 2 dX12_sumOf_40 rfl ?_
      exact V_iret C hr hlk dX12_sumOf_41 h
    · have h := h.2 q1
      refine V_iload_n C 2 dX12_sumOf_12 rfl ?_
      refine V_iload_n C 1 dX12_sumOf_13 rfl ?_
      refine V_if_eq C 26 dX12_sumOf_14 (by decide) (fun q2 => ?_) (fun q2 => ?_)
      · have h := h.1 q2
        refine V_aload_n C 0 dX12_sumOf_26 rfl ?_
        refine V_get (k0 := 9) (Cn := RX12) (T := TX12) (N := 49) C (nsM_mem (by decide)) rfl iw_X12_sumOf_X12 (by decide) rfl m_X12_sumOf_f25 (ceM_0 _) rfl dX12_sumOf_27 ?_
        refine V_iload_n C 3 dX12_sumOf_30 rfl ?_
        have g3 := h.1
        have h := h.2
        refine V_iald (t0 := 1) (L := 5) C (nsM_mem (by decide)) (fun _ => rfl) rfl g3 dX12_sumOf_31 ?_
        refine V_iadd C dX12_sumOf_32 ?_
        refine V_istore_n (lv' := [(2, .int (v2 + (M.1 6 v3.toNatClampNeg))), (0, .ref (ad 0)), (1, .int v1), (3, .int v3)]) C dX12_sumOf_33 rfl (by decide) rfl ?_
        refine V_iinc (v := (v3 + 1)) (lv' := [(3, .int (v3 + 1)), (2, .int (v2 + (M.1 6 v3.toNatClampNeg))), (0, .ref (ad 0)), (1, .int v1)]) C 3 dX12_sumOf_34 rfl rfl (by decide) rfl ?_
        refine V_goto C 4 dX12_sumOf_37 (by decide) ?_
        refine V_drop (lv' := [(0, .ref (ad 0)), (1, .int v1), (2, .int (v2 + (M.1 6 v3.toNatClampNeg))), (3, .int (v3 + 1))]) [2, 3, 1, 0] rfl ?_
        exact ih v1 (v2 + (M.1 6 v3.toNatClampNeg)) (v3 + 1) M h 
      · have h := h.2 q2
        refine V_aload_n C 0 dX12_sumOf_17 rfl ?_
        refine V_get (k0 := 8) (Cn := RX12) (T := TX12) (N := 49) C (nsM_mem (by decide)) rfl iw_X12_sumOf_X12 (by decide) rfl m_X12_sumOf_f22 (ceM_0 _) rfl dX12_sumOf_18 ?_
        refine V_iload_n C 3 dX12_sumOf_21 rfl ?_
        have g4 := h.1
        have h := h.2
        refine V_iald (t0 := 1) (L := 5) C (nsM_mem (by decide)) (fun _ => rfl) rfl g4 dX12_sumOf_22 ?_
        refine V_goto C 32 dX12_sumOf_23 (by decide) ?_
        refine V_iadd C dX12_sumOf_32 ?_
        refine V_istore_n (lv' := [(2, .int (v2 + (M.1 5 v3.toNatClampNeg))), (0, .ref (ad 0)), (1, .int v1), (3, .int v3)]) C dX12_sumOf_33 rfl (by decide) rfl ?_
        refine V_iinc (v := (v3 + 1)) (lv' := [(3, .int (v3 + 1)), (2, .int (v2 + (M.1 5 v3.toNatClampNeg))), (0, .ref (ad 0)), (1, .int v1)]) C 3 dX12_sumOf_34 rfl rfl (by decide) rfl ?_
        refine V_goto C 4 dX12_sumOf_37 (by decide) ?_
        refine V_drop (lv' := [(0, .ref (ad 0)), (1, .int v1), (2, .int (v2 + (M.1 5 v3.toNatClampNeg))), (3, .int (v3 + 1))]) [2, 3, 1, 0] rfl ?_
        exact ih v1 (v2 + (M.1 5 v3.toNatClampNeg)) (v3 + 1) M h 
  unfold w_X12_sumOf at h
  refine V_iconst (v := (0 : Int32)) C dX12_sumOf_0 (by decide) ?_
  refine V_istore_n (lv' := [(2, .int (0 : Int32)), (0, .ref (ad 0)), (1, .int x1)]) C dX12_sumOf_1 rfl (by decide) rfl ?_
  refine V_iconst (v := (0 : Int32)) C dX12_sumOf_2 (by decide) ?_
  refine V_istore_n (lv' := [(3, .int (0 : Int32)), (2, .int (0 : Int32)), (0, .ref (ad 0)), (1, .int x1)]) C dX12_sumOf_3 rfl (by decide) rfl ?_
  refine V_drop (lv' := [(0, .ref (ad 0)), (1, .int x1), (2, .int (0 : Int32)), (3, .int (0 : Int32))]) [2, 3, 1, 0] rfl ?_
  obtain ⟨n0, h⟩ := h
  exact L4  n0 x1 (0 : Int32) (0 : Int32) M h 
def w_X12_howMany (x1 : Int32) (M : Mm) (post : Int32 → Mm → Prop) : Prop :=
  ((x1 = 0) → (post (M.1 0 1) M)) ∧ ((¬ x1 = 0) → (((x1 = 1) → (post (M.1 0 2) M)) ∧ ((¬ x1 = 1) → (((x1 = 2) → (post (M.1 0 3) M)) ∧ ((¬ x1 = 2) → (((x1 = 3) → (w_X12_sumOf (1 : Int32) M (fun r5 M6 => post r5 M6))) ∧ ((¬ x1 = 3) → (((x1 = 4) → (w_X12_sumOf (0 : Int32) M (fun r9 M10 => post r9 M10))) ∧ ((¬ x1 = 4) → (((x1 = 5) → (w_X12_tookAll  M (fun r13 M14 => post r13 M14))) ∧ ((¬ x1 = 5) → (((x1 = 6) → (post (M.1 0 12) M)) ∧ ((¬ x1 = 6) → (((x1 = 7) → (w_X12_inRoom (0 : Int32) M (fun r18 M19 => post r18 M19))) ∧ ((¬ x1 = 7) → (((x1 = 8) → (post (M.1 0 14) M)) ∧ ((¬ x1 = 8) → (((x1 = 9) → (post (M.1 0 19) M)) ∧ ((¬ x1 = 9) → (((x1 = 10) → (post (M.1 0 0) M)) ∧ ((¬ x1 = 10) → (((x1 = 11) → (post (M.1 0 13) M)) ∧ ((¬ x1 = 11) → (post (-102 : Int32) M))))))))))))))))))))))))
theorem iw_X12_howMany_X12 : ∀ w ∈ u_ws RX12 TX12 49, w ∈ wsX12_howMany := by decide +kernel
theorem m_X12_howMany_f150 : Cond.fieldLink RX12 150 "ShameYardsModel" "rooms" "I" ∈ wsX12_howMany := by decide +kernel
theorem m_X12_howMany_f153 : Cond.fieldLink RX12 153 "ShameYardsModel" "passages" "I" ∈ wsX12_howMany := by decide +kernel
theorem m_X12_howMany_f156 : Cond.fieldLink RX12 156 "ShameYardsModel" "people" "I" ∈ wsX12_howMany := by decide +kernel
theorem m_X12_howMany_f159 : Cond.fieldLink RX12 159 "ShameYardsModel" "together" "I" ∈ wsX12_howMany := by decide +kernel
theorem m_X12_howMany_f165 : Cond.fieldLink RX12 165 "ShameYardsModel" "seen" "I" ∈ wsX12_howMany := by decide +kernel
theorem m_X12_howMany_f112 : Cond.fieldLink RX12 112 "ShameYardsModel" "pageLength" "I" ∈ wsX12_howMany := by decide +kernel
theorem m_X12_howMany_f162 : Cond.fieldLink RX12 162 "ShameYardsModel" "ministries" "I" ∈ wsX12_howMany := by decide +kernel
theorem m_X12_howMany_f235 : Cond.fieldLink RX12 235 "ShameYardsModel" "asks" "I" ∈ wsX12_howMany := by decide +kernel
set_option maxHeartbeats 4000000 in
set_option maxRecDepth 100000 in
theorem c_X12_howMany (l : Launch) (D : va_G) (cy : Nat → ClassId) (ad : Nat → Nat) (A : Nat → Prop) (G : Gd A ad nsM)   (x1 : Int32) (M : Mm) (post : Int32 → Mm → Prop) (h : w_X12_howMany x1 M post) : CI l yX12_howMany wsX12_howMany (rmL 3) D (tysC cy) A ad nsM (ceM ad cy) ExM [.ref (ad 0), .int x1] M post := by
  refine Met_V (cc := cX12_howMany) (maxL := 2) (ret := (some .int)) (by decide) rfl G Lo_M ExM_ok (Nat.le_of_ble_eq_true rfl) rfl ?_
  intro p e s m args below meth c C hr hlk
  have C : Cx p s m args c cX12_howMany 2 RX12 wsX12_howMany D (tysC cy) A ad nsM (ceM ad cy) ExM := C
  unfold w_X12_howMany at h
  refine V_iload_n C 1 dX12_howMany_0 rfl ?_
  by_cases q1 : x1 = 0
  · have h := h.1 q1
    refine V_tswIn C 64 dX12_howMany_1 (by rw [q1]; decide) (by rw [q1]; decide) (by rw [q1]; rfl) (by decide) ?_
    refine V_aload_n C 0 dX12_howMany_64 rfl ?_
    refine V_get (k0 := 1) (Cn := RX12) (T := TX12) (N := 49) C (nsM_mem (by decide)) rfl iw_X12_howMany_X12 (by decide) rfl m_X12_howMany_f150 (ceM_0 _) rfl dX12_howMany_65 ?_
    exact V_iret C hr hlk dX12_howMany_68 h
  · have h := h.2 q1
    by_cases q2 : x1 = 1
    · have h := h.1 q2
      refine V_tswIn C 69 dX12_howMany_1 (by rw [q2]; decide) (by rw [q2]; decide) (by rw [q2]; rfl) (by decide) ?_
      refine V_aload_n C 0 dX12_howMany_69 rfl ?_
      refine V_get (k0 := 2) (Cn := RX12) (T := TX12) (N := 49) C (nsM_mem (by decide)) rfl iw_X12_howMany_X12 (by decide) rfl m_X12_howMany_f153 (ceM_0 _) rfl dX12_howMany_70 ?_
      exact V_iret C hr hlk dX12_howMany_73 h
    · have h := h.2 q2
      by_cases q3 : x1 = 2
      · have h := h.1 q3
        refine V_tswIn C 74 dX12_howMany_1 (by rw [q3]; decide) (by rw [q3]; decide) (by rw [q3]; rfl) (by decide) ?_
        refine V_aload_n C 0 dX12_howMany_74 rfl ?_
        refine V_get (k0 := 3) (Cn := RX12) (T := TX12) (N := 49) C (nsM_mem (by decide)) rfl iw_X12_howMany_X12 (by decide) rfl m_X12_howMany_f156 (ceM_0 _) rfl dX12_howMany_75 ?_
        exact V_iret C hr hlk dX12_howMany_78 h
      · have h := h.2 q3
        by_cases q4 : x1 = 3
        · have h := h.1 q4
          refine V_tswIn C 79 dX12_howMany_1 (by rw [q4]; decide) (by rw [q4]; decide) (by rw [q4]; rfl) (by decide) ?_
          refine V_aload_n C 0 dX12_howMany_79 rfl ?_
          refine V_iconst (v := (1 : Int32)) C dX12_howMany_80 (by decide) ?_
          refine V_callVi (q := (RX12, TX12, 49)) (rest := []) C (nsM_mem (by decide)) (ceM_0 _) rfl (c_X12_sumOf l D cy ad A G (1 : Int32) M _ h) (cwV 1 C.1.2.2.2.2 gX12_howMany_X12_sumOf rfl rfl rfl (by decide +kernel) ⟨by decide, by decide⟩) rfl rfl (Nat.le_of_ble_eq_true rfl) dX12_howMany_81 (fun r5 M6 h => ?_)
          exact V_iret C hr hlk dX12_howMany_84 h
        · have h := h.2 q4
          by_cases q8 : x1 = 4
          · have h := h.1 q8
            refine V_tswIn C 85 dX12_howMany_1 (by rw [q8]; decide) (by rw [q8]; decide) (by rw [q8]; rfl) (by decide) ?_
            refine V_aload_n C 0 dX12_howMany_85 rfl ?_
            refine V_iconst (v := (0 : Int32)) C dX12_howMany_86 (by decide) ?_
            refine V_callVi (q := (RX12, TX12, 49)) (rest := []) C (nsM_mem (by decide)) (ceM_0 _) rfl (c_X12_sumOf l D cy ad A G (0 : Int32) M _ h) (cwV 1 C.1.2.2.2.2 gX12_howMany_X12_sumOf rfl rfl rfl (by decide +kernel) ⟨by decide, by decide⟩) rfl rfl (Nat.le_of_ble_eq_true rfl) dX12_howMany_87 (fun r9 M10 h => ?_)
            exact V_iret C hr hlk dX12_howMany_90 h
          · have h := h.2 q8
            by_cases q12 : x1 = 5
            · have h := h.1 q12
              refine V_tswIn C 91 dX12_howMany_1 (by rw [q12]; decide) (by rw [q12]; decide) (by rw [q12]; rfl) (by decide) ?_
              refine V_aload_n C 0 dX12_howMany_91 rfl ?_
              refine V_callVi (q := (RX12, TX12, 49)) (rest := []) C (nsM_mem (by decide)) (ceM_0 _) rfl (c_X12_tookAll l D cy ad A G  M _ h) (cwV 0 C.1.2.2.2.2 gX12_howMany_X12_tookAll rfl rfl rfl (by decide +kernel) ⟨by decide, by decide⟩) rfl rfl (Nat.le_of_ble_eq_true rfl) dX12_howMany_92 (fun r13 M14 h => ?_)
              exact V_iret C hr hlk dX12_howMany_95 h
            · have h := h.2 q12
              by_cases q16 : x1 = 6
              · have h := h.1 q16
                refine V_tswIn C 96 dX12_howMany_1 (by rw [q16]; decide) (by rw [q16]; decide) (by rw [q16]; rfl) (by decide) ?_
                refine V_aload_n C 0 dX12_howMany_96 rfl ?_
                refine V_get (k0 := 12) (Cn := RX12) (T := TX12) (N := 49) C (nsM_mem (by decide)) rfl iw_X12_howMany_X12 (by decide) rfl m_X12_howMany_f159 (ceM_0 _) rfl dX12_howMany_97 ?_
                exact V_iret C hr hlk dX12_howMany_100 h
              · have h := h.2 q16
                by_cases q17 : x1 = 7
                · have h := h.1 q17
                  refine V_tswIn C 101 dX12_howMany_1 (by rw [q17]; decide) (by rw [q17]; decide) (by rw [q17]; rfl) (by decide) ?_
                  refine V_aload_n C 0 dX12_howMany_101 rfl ?_
                  refine V_iconst (v := (0 : Int32)) C dX12_howMany_102 (by decide) ?_
                  refine V_callVi (q := (RX12, TX12, 49)) (rest := []) C (nsM_mem (by decide)) (ceM_0 _) rfl (c_X12_inRoom l D cy ad A G (0 : Int32) M _ h) (cwV 1 C.1.2.2.2.2 gX12_howMany_X12_inRoom rfl rfl rfl (by decide +kernel) ⟨by decide, by decide⟩) rfl rfl (Nat.le_of_ble_eq_true rfl) dX12_howMany_103 (fun r18 M19 h => ?_)
                  exact V_iret C hr hlk dX12_howMany_106 h
                · have h := h.2 q17
                  by_cases q21 : x1 = 8
                  · have h := h.1 q21
                    refine V_tswIn C 107 dX12_howMany_1 (by rw [q21]; decide) (by rw [q21]; decide) (by rw [q21]; rfl) (by decide) ?_
                    refine V_aload_n C 0 dX12_howMany_107 rfl ?_
                    refine V_get (k0 := 14) (Cn := RX12) (T := TX12) (N := 49) C (nsM_mem (by decide)) rfl iw_X12_howMany_X12 (by decide) rfl m_X12_howMany_f165 (ceM_0 _) rfl dX12_howMany_108 ?_
                    exact V_iret C hr hlk dX12_howMany_111 h
                  · have h := h.2 q21
                    by_cases q22 : x1 = 9
                    · have h := h.1 q22
                      refine V_tswIn C 112 dX12_howMany_1 (by rw [q22]; decide) (by rw [q22]; decide) (by rw [q22]; rfl) (by decide) ?_
                      refine V_aload_n C 0 dX12_howMany_112 rfl ?_
                      refine V_get (k0 := 19) (Cn := RX12) (T := TX12) (N := 49) C (nsM_mem (by decide)) rfl iw_X12_howMany_X12 (by decide) rfl m_X12_howMany_f112 (ceM_0 _) rfl dX12_howMany_113 ?_
                      exact V_iret C hr hlk dX12_howMany_116 h
                    · have h := h.2 q22
                      by_cases q23 : x1 = 10
                      · have h := h.1 q23
                        refine V_tswIn C 117 dX12_howMany_1 (by rw [q23]; decide) (by rw [q23]; decide) (by rw [q23]; rfl) (by decide) ?_
                        refine V_aload_n C 0 dX12_howMany_117 rfl ?_
                        refine V_get (k0 := 0) (Cn := RX12) (T := TX12) (N := 49) C (nsM_mem (by decide)) rfl iw_X12_howMany_X12 (by decide) rfl m_X12_howMany_f162 (ceM_0 _) rfl dX12_howMany_118 ?_
                        exact V_iret C hr hlk dX12_howMany_121 h
                      · have h := h.2 q23
                        by_cases q24 : x1 = 11
                        · have h := h.1 q24
                          refine V_tswIn C 122 dX12_howMany_1 (by rw [q24]; decide) (by rw [q24]; decide) (by rw [q24]; rfl) (by decide) ?_
                          refine V_aload_n C 0 dX12_howMany_122 rfl ?_
                          refine V_get (k0 := 13) (Cn := RX12) (T := TX12) (N := 49) C (nsM_mem (by decide)) rfl iw_X12_howMany_X12 (by decide) rfl m_X12_howMany_f235 (ceM_0 _) rfl dX12_howMany_123 ?_
                          exact V_iret C hr hlk dX12_howMany_126 h
                        · have h := h.2 q24
                          refine V_tswOut C 127 dX12_howMany_1 (by have := lv_neT q1 (show (0 : Int32).toInt = 0 by decide); have := lv_neT q2 (show (1 : Int32).toInt = 1 by decide); have := lv_neT q3 (show (2 : Int32).toInt = 2 by decide); have := lv_neT q4 (show (3 : Int32).toInt = 3 by decide); have := lv_neT q8 (show (4 : Int32).toInt = 4 by decide); have := lv_neT q12 (show (5 : Int32).toInt = 5 by decide); have := lv_neT q16 (show (6 : Int32).toInt = 6 by decide); have := lv_neT q17 (show (7 : Int32).toInt = 7 by decide); have := lv_neT q21 (show (8 : Int32).toInt = 8 by decide); have := lv_neT q22 (show (9 : Int32).toInt = 9 by decide); have := lv_neT q23 (show (10 : Int32).toInt = 10 by decide); have := lv_neT q24 (show (11 : Int32).toInt = 11 by decide); omega) (by decide) ?_
                          refine V_bipush (v := (-102 : Int32)) C dX12_howMany_127 (by decide) ?_
                          exact V_iret C hr hlk dX12_howMany_129 h
def w_X12_count (x1 : Int32) (M : Mm) (post : Int32 → Mm → Prop) : Prop :=
  w_X12_howMany x1 M (fun r1 M2 => post r1 M2)
set_option maxHeartbeats 4000000 in
set_option maxRecDepth 100000 in
theorem c_X12_count (l : Launch) (D : va_G) (cy : Nat → ClassId) (ad : Nat → Nat) (A : Nat → Prop) (G : Gd A ad nsM)   (x1 : Int32) (M : Mm) (post : Int32 → Mm → Prop) (h : w_X12_count x1 M post) : CI l yX12_count wsX12_count (rmL 4) D (tysC cy) A ad nsM (ceM ad cy) ExM [.ref (ad 0), .int x1] M post := by
  refine Met_V (cc := cX12_count) (maxL := 2) (ret := (some .int)) (by decide) rfl G Lo_M ExM_ok (Nat.le_of_ble_eq_true rfl) rfl ?_
  intro p e s m args below meth c C hr hlk
  have C : Cx p s m args c cX12_count 2 RX12 wsX12_count D (tysC cy) A ad nsM (ceM ad cy) ExM := C
  unfold w_X12_count at h
  refine V_aload_n C 0 dX12_count_0 rfl ?_
  refine V_iload_n C 1 dX12_count_1 rfl ?_
  refine V_callVi (q := (RX12, TX12, 49)) (rest := []) C (nsM_mem (by decide)) (ceM_0 _) rfl (c_X12_howMany l D cy ad A G x1 M _ h) (cwV 1 C.1.2.2.2.2 gX12_count_X12_howMany rfl rfl rfl (by decide +kernel) ⟨by decide, by decide⟩) rfl rfl (Nat.le_of_ble_eq_true rfl) dX12_count_2 (fun r1 M2 h => ?_)
  exact V_iret C hr hlk dX12_count_5 h
def w_X12_mix (x1 : Int64) (M : Mm) (post : Mm → Prop) : Prop :=
  ∀ M1 : Mm, M1 = wJ M 0 (vp_updL (M.2 0) 48 (((31 : Int64) * (M.2 0 48)) + x1)) → (post M1)
theorem iw_X12_mix_X12 : ∀ w ∈ u_ws RX12 TX12 49, w ∈ wsX12_mix := by decide +kernel
theorem m_X12_mix_c331 : Jvm.Cond.constantLong RX12 331 (31) ∈ wsX12_mix := by decide +kernel
theorem m_X12_mix_f333 : Cond.fieldLink RX12 333 "ShameYardsModel" "h" "J" ∈ wsX12_mix := by decide +kernel
set_option maxHeartbeats 4000000 in
set_option maxRecDepth 100000 in
theorem c_X12_mix (l : Launch) (D : va_G) (cy : Nat → ClassId) (ad : Nat → Nat) (A : Nat → Prop) (G : Gd A ad nsM)   (x1 : Int64) (M : Mm) (post : Mm → Prop) (h : w_X12_mix x1 M post) : CV l yX12_mix wsX12_mix (rmL 2) D (tysC cy) A ad nsM (ceM ad cy) ExM [.ref (ad 0), .long x1] M post := by
  refine Met_V (cc := cX12_mix) (maxL := 3) (ret := none) (by decide) rfl G Lo_M ExM_ok (Nat.le_of_ble_eq_true rfl) rfl ?_
  intro p e s m args below meth c C hr hlk
  have C : Cx p s m args c cX12_mix 3 RX12 wsX12_mix D (tysC cy) A ad nsM (ceM ad cy) ExM := C
  unfold w_X12_mix at h
  refine V_aload_n C 0 dX12_mix_0 rfl ?_
  refine V_ldc2 (v := (31 : Int64)) C dX12_mix_1 m_X12_mix_c331 ?_
  refine V_aload_n C 0 dX12_mix_4 rfl ?_
  refine V_get (k0 := 48) (Cn := RX12) (T := TX12) (N := 49) C (nsM_mem (by decide)) rfl iw_X12_mix_X12 (by decide) rfl m_X12_mix_f333 (ceM_0 _) rfl dX12_mix_5 ?_
  refine V_lmul C dX12_mix_8 ?_
  refine V_lload_n C 1 dX12_mix_9 rfl ?_
  refine V_ladd C dX12_mix_10 ?_
  refine V_putJ (k0 := 48) (Cn := RX12) (T := TX12) (N := 49) C (nsM_mem (by decide)) rfl iw_X12_mix_X12 (by decide) rfl m_X12_mix_f333 tyX12_ok nmX12 rfl (show _ = some FieldType.long by decide +kernel) rfl rfl (Nat.le_of_ble_eq_true rfl) (ceM_0 _) (stM0_48  _ _) dX12_mix_11 (fun M1 e2 => ?_)
  have h := h M1 e2
  exact V_vret C hr hlk dX12_mix_14 h
def w_X12_mixPerson_27  (post : Mm → Prop)  : Nat → Int32 → Int32 → Mm → Prop
  | 0 => fun _ _ _ => False
  | n + 1 => fun v1 v2 M =>
    (((M.1 0 1) ≤ v2) → (post M)) ∧ ((¬ (M.1 0 1) ≤ v2) → ((vp_in v1 5) ∧ (w_X12_farNow v1 (M.1 7 v1.toNatClampNeg) v2 (0 : Int32) M (fun r3 M4 => w_X12_mix (r3.toInt64) M4 (fun M7 => w_X12_farNow v1 (M7.1 7 v1.toNatClampNeg) v2 (10 : Int32) M7 (fun r9 M10 => w_X12_mix (r9.toInt64) M10 (fun M13 => w_X12_mixPerson_27  post  n v1 (v2 + 1) M13)))))))
def w_X12_mixPerson_2  (post : Mm → Prop)  : Nat → Int32 → Int32 → Mm → Prop
  | 0 => fun _ _ _ => False
  | n + 1 => fun v1 v2 M =>
    (((7 : Int32) ≤ v2) → (∃ n0 : Nat, w_X12_mixPerson_27  post  n0 v1 (0 : Int32) M)) ∧ ((¬ (7 : Int32) ≤ v2) → (w_X12_personNow v1 v2 M (fun r16 M17 => w_X12_mix (r16.toInt64) M17 (fun M20 => w_X12_mixPerson_2  post  n v1 (v2 + 1) M20))))
def w_X12_mixPerson (x1 : Int32) (M : Mm) (post : Mm → Prop) : Prop :=
  ∃ n0 : Nat, w_X12_mixPerson_2  post  n0 x1 (0 : Int32) M
theorem iw_X12_mixPerson_X12 : ∀ w ∈ u_ws RX12 TX12 49, w ∈ wsX12_mixPerson := by decide +kernel
theorem m_X12_mixPerson_f150 : Cond.fieldLink RX12 150 "ShameYardsModel" "rooms" "I" ∈ wsX12_mixPerson := by decide +kernel
theorem m_X12_mixPerson_f28 : Cond.fieldLink RX12 28 "ShameYardsModel" "roomOf" "[I" ∈ wsX12_mixPerson := by decide +kernel
set_option maxHeartbeats 4000000 in
set_option maxRecDepth 100000 in
theorem c_X12_mixPerson (l : Launch) (D : va_G) (cy : Nat → ClassId) (ad : Nat → Nat) (A : Nat → Prop) (G : Gd A ad nsM)   (x1 : Int32) (M : Mm) (post : Mm → Prop) (h : w_X12_mixPerson x1 M post) : CV l yX12_mixPerson wsX12_mixPerson (rmL 8) D (tysC cy) A ad nsM (ceM ad cy) ExM [.ref (ad 0), .int x1] M post := by
  refine Met_V (cc := cX12_mixPerson) (maxL := 3) (ret := none) (by decide) rfl G Lo_M ExM_ok (Nat.le_of_ble_eq_true rfl) rfl ?_
  intro p e s m args below meth c C hr hlk
  have C : Cx p s m args c cX12_mixPerson 3 RX12 wsX12_mixPerson D (tysC cy) A ad nsM (ceM ad cy) ExM := C
  have L27 : ∀  (n : Nat) (v1 : Int32) (v2 : Int32) (M : Mm), w_X12_mixPerson_27  post  n v1 v2 M → V p l e (rmL 8) s m args below meth c (MQ below (va_Qv post (Wd D (tysC cy) ad nsM (ceM ad cy) ExM) A) args s 0 0 A) D A ad nsM (ceM ad cy) 3 M [(0, .ref (ad 0)), (1, .int v1), (2, .int v2)] 27 [] := by
    intro  n
    induction n with
    | zero => intro v1 v2 M h; exact h.elim
    | succ n ih =>
    intro v1 v2 M h 
    unfold w_X12_mixPerson_27 at h
    refine V_iload_n C 2 dX12_mixPerson_27 rfl ?_
    refine V_aload_n C 0 dX12_mixPerson_28 rfl ?_
    refine V_get (k0 := 1) (Cn := RX12) (T := TX12) (N := 49) C (nsM_mem (by decide)) rfl iw_X12_mixPerson_X12 (by decide) rfl m_X12_mixPerson_f150 (ceM_0 _) rfl dX12_mixPerson_29 ?_
    refine V_icmp_ge C 78 dX12_mixPerson_32 (by decide) (fun q1 => ?_) (fun q1 => ?_)
    · have h := h.1 q1
      exact V_vret C hr hlk dX12_mixPerson_78 h
    · have h := h.2 q1
      refine V_aload_n C 0 dX12_mixPerson_35 rfl ?_
      refine V_aload_n C 0 dX12_mixPerson_36 rfl ?_
      refine V_iload_n C 1 dX12_mixPerson_37 rfl ?_
      refine V_aload_n C 0 dX12_mixPerson_38 rfl ?_
      refine V_get (k0 := 10) (Cn := RX12) (T := TX12) (N := 49) C (nsM_mem (by decide)) rfl iw_X12_mixPerson_X12 (by decide) rfl m_X12_mixPerson_f28 (ceM_0 _) rfl dX12_mixPerson_39 ?_
      refine V_iload_n C 1 dX12_mixPerson_42 rfl ?_
      have g2 := h.1
      have h := h.2
      refine V_iald (t0 := 1) (L := 5) C (nsM_mem (by decide)) (fun _ => rfl) rfl g2 dX12_mixPerson_43 ?_
      refine V_iload_n C 2 dX12_mixPerson_44 rfl ?_
      refine V_iconst (v := (0 : Int32)) C dX12_mixPerson_45 (by decide) ?_
      refine V_callVi (q := (RX12, TX12, 49)) (rest := [.ref (ad 0)]) C (nsM_mem (by decide)) (ceM_0 _) rfl (c_X12_farNow l D cy ad A G v1 (M.1 7 v1.toNatClampNeg) v2 (0 : Int32) M _ h) (cwV 4 C.1.2.2.2.2 gX12_mixPerson_X12_farNow rfl rfl rfl (by decide +kernel) ⟨by decide, by decide⟩) rfl rfl (Nat.le_of_ble_eq_true rfl) dX12_mixPerson_46 (fun r3 M4 h => ?_)
      refine V_i2l C dX12_mixPerson_49 ?_
      refine V_callVv (q := (RX12, TX12, 49)) (rest := []) C (nsM_mem (by decide)) (ceM_0 _) rfl (c_X12_mix l D cy ad A G (r3.toInt64) M4 _ h) (cwV 1 C.1.2.2.2.2 gX12_mixPerson_X12_mix rfl rfl rfl (by decide +kernel) ⟨by decide, by decide⟩) rfl rfl (Nat.le_of_ble_eq_true rfl) dX12_mixPerson_50 (fun M7 h => ?_)
      refine V_aload_n C 0 dX12_mixPerson_53 rfl ?_
      refine V_aload_n C 0 dX12_mixPerson_54 rfl ?_
      refine V_iload_n C 1 dX12_mixPerson_55 rfl ?_
      refine V_aload_n C 0 dX12_mixPerson_56 rfl ?_
      refine V_get (k0 := 10) (Cn := RX12) (T := TX12) (N := 49) C (nsM_mem (by decide)) rfl iw_X12_mixPerson_X12 (by decide) rfl m_X12_mixPerson_f28 (ceM_0 _) rfl dX12_mixPerson_57 ?_
      refine V_iload_n C 1 dX12_mixPerson_60 rfl ?_
      refine V_iald (t0 := 1) (L := 5) C (nsM_mem (by decide)) (fun _ => rfl) rfl g2 dX12_mixPerson_61 ?_
      refine V_iload_n C 2 dX12_mixPerson_62 rfl ?_
      refine V_bipush (v := (10 : Int32)) C dX12_mixPerson_63 (by decide) ?_
      refine V_callVi (q := (RX12, TX12, 49)) (rest := [.ref (ad 0)]) C (nsM_mem (by decide)) (ceM_0 _) rfl (c_X12_farNow l D cy ad A G v1 (M7.1 7 v1.toNatClampNeg) v2 (10 : Int32) M7 _ h) (cwV 4 C.1.2.2.2.2 gX12_mixPerson_X12_farNow rfl rfl rfl (by decide +kernel) ⟨by decide, by decide⟩) rfl rfl (Nat.le_of_ble_eq_true rfl) dX12_mixPerson_65 (fun r9 M10 h => ?_)
      refine V_i2l C dX12_mixPerson_68 ?_
      refine V_callVv (q := (RX12, TX12, 49)) (rest := []) C (nsM_mem (by decide)) (ceM_0 _) rfl (c_X12_mix l D cy ad A G (r9.toInt64) M10 _ h) (cwV 1 C.1.2.2.2.2 gX12_mixPerson_X12_mix rfl rfl rfl (by decide +kernel) ⟨by decide, by decide⟩) rfl rfl (Nat.le_of_ble_eq_true rfl) dX12_mixPerson_69 (fun M13 h => ?_)
      refine V_iinc (v := (v2 + 1)) (lv' := [(2, .int (v2 + 1)), (0, .ref (ad 0)), (1, .int v1)]) C 2 dX12_mixPerson_72 rfl rfl (by decide) rfl ?_
      refine V_goto C 27 dX12_mixPerson_75 (by decide) ?_
      refine V_drop (lv' := [(0, .ref (ad 0)), (1, .int v1), (2, .int (v2 + 1))]) [1, 2, 0] rfl ?_
      exact ih v1 (v2 + 1) M13 h 
  have L2 : ∀  (n : Nat) (v1 : Int32) (v2 : Int32) (M : Mm), w_X12_mixPerson_2  post  n v1 v2 M → V p l e (rmL 8) s m args below meth c (MQ below (va_Qv post (Wd D (tysC cy) ad nsM (ceM ad cy) ExM) A) args s 0 0 A) D A ad nsM (ceM ad cy) 3 M [(0, .ref (ad 0)), (1, .int v1), (2, .int v2)] 2 [] := by
    intro  n
    induction n with
    | zero => intro v1 v2 M h; exact h.elim
    | succ n ih =>
    intro v1 v2 M h 
    unfold w_X12_mixPerson_2 at h
    refine V_iload_n C 2 dX12_mixPerson_2 rfl ?_
    refine V_bipush (v := (7 : Int32)) C dX12_mixPerson_3 (by decide) ?_
    refine V_icmp_ge C 25 dX12_mixPerson_5 (by decide) (fun q15 => ?_) (fun q15 => ?_)
    · have h := h.1 q15
      refine V_iconst (v := (0 : Int32)) C dX12_mixPerson_25 (by decide) ?_
      refine V_istore_n (lv' := [(2, .int (0 : Int32)), (0, .ref (ad 0)), (1, .int v1)]) C dX12_mixPerson_26 rfl (by decide) rfl ?_
      refine V_drop (lv' := [(0, .ref (ad 0)), (1, .int v1), (2, .int (0 : Int32))]) [1, 2, 0] rfl ?_
      obtain ⟨n0, h⟩ := h
      exact L27  n0 v1 (0 : Int32) M h 
    · have h := h.2 q15
      refine V_aload_n C 0 dX12_mixPerson_8 rfl ?_
      refine V_aload_n C 0 dX12_mixPerson_9 rfl ?_
      refine V_iload_n C 1 dX12_mixPerson_10 rfl ?_
      refine V_iload_n C 2 dX12_mixPerson_11 rfl ?_
      refine V_callVi (q := (RX12, TX12, 49)) (rest := [.ref (ad 0)]) C (nsM_mem (by decide)) (ceM_0 _) rfl (c_X12_personNow l D cy ad A G v1 v2 M _ h) (cwV 2 C.1.2.2.2.2 gX12_mixPerson_X12_personNow rfl rfl rfl (by decide +kernel) ⟨by decide, by decide⟩) rfl rfl (Nat.le_of_ble_eq_true rfl) dX12_mixPerson_12 (fun r16 M17 h => ?_)
      refine V_i2l C dX12_mixPerson_15 ?_
      refine V_callVv (q := (RX12, TX12, 49)) (rest := []) C (nsM_mem (by decide)) (ceM_0 _) rfl (c_X12_mix l D cy ad A G (r16.toInt64) M17 _ h) (cwV 1 C.1.2.2.2.2 gX12_mixPerson_X12_mix rfl rfl rfl (by decide +kernel) ⟨by decide, by decide⟩) rfl rfl (Nat.le_of_ble_eq_true rfl) dX12_mixPerson_16 (fun M20 h => ?_)
      refine V_iinc (v := (v2 + 1)) (lv' := [(2, .int (v2 + 1)), (0, .ref (ad 0)), (1, .int v1)]) C 2 dX12_mixPerson_19 rfl rfl (by decide) rfl ?_
      refine V_goto C 2 dX12_mixPerson_22 (by decide) ?_
      refine V_drop (lv' := [(0, .ref (ad 0)), (1, .int v1), (2, .int (v2 + 1))]) [1, 2, 0] rfl ?_
      exact ih v1 (v2 + 1) M20 h 
  unfold w_X12_mixPerson at h
  refine V_iconst (v := (0 : Int32)) C dX12_mixPerson_0 (by decide) ?_
  refine V_istore_n (lv' := [(2, .int (0 : Int32)), (0, .ref (ad 0)), (1, .int x1)]) C dX12_mixPerson_1 rfl (by decide) rfl ?_
  refine V_drop (lv' := [(0, .ref (ad 0)), (1, .int x1), (2, .int (0 : Int32))]) [1, 2, 0] rfl ?_
  obtain ⟨n0, h⟩ := h
  exact L2  n0 x1 (0 : Int32) M h 
def w_X12_digest_85  (post : Int64 → Mm → Prop) (k30 : Int32 → Mm → Prop) : Nat → Int32 → Int32 → Mm → Prop
  | 0 => fun _ _ _ => False
  | n + 1 => fun v1 v2 M =>
    (((15 : Int32) ≤ v2) → (k30 (v1 + 1) M)) ∧ ((¬ (15 : Int32) ≤ v2) → (w_X12_pairsNow v1 v2 M (fun r2 M3 => w_X12_mix (r2.toInt64) M3 (fun M6 => w_X12_digest_85  post k30 n v1 (v2 + 1) M6))))
def w_X12_digest_175  (post : Int64 → Mm → Prop)  : Nat → Int32 → Mm → Prop
  | 0 => fun _ _ => False
  | n + 1 => fun v1 M =>
    (((12 : Int32) ≤ v1) → (post (M.2 0 48) M)) ∧ ((¬ (12 : Int32) ≤ v1) → (w_X12_howMany v1 M (fun r9 M10 => w_X12_mix (r9.toInt64) M10 (fun M13 => w_X12_digest_175  post  n (v1 + 1) M13))))
def w_X12_digest_148  (post : Int64 → Mm → Prop)  : Nat → Int32 → Mm → Prop
  | 0 => fun _ _ => False
  | n + 1 => fun v1 M =>
    (((M.1 0 19) ≤ v1) → (∃ n0 : Nat, w_X12_digest_175  post  n0 (0 : Int32) M)) ∧ ((¬ (M.1 0 19) ≤ v1) → ((vp_in v1 52) ∧ (w_X12_mix ((M.1 13 v1.toNatClampNeg).toInt64) M (fun M18 => w_X12_digest_148  post  n (v1 + 1) M18))))
def w_X12_digest_30  (post : Int64 → Mm → Prop)  : Nat → Int32 → Mm → Prop
  | 0 => fun _ _ => False
  | n + 1 => fun v1 M =>
    (((M.1 0 2) ≤ v1) → ((((M.1 0 3) ≤ (1 : Int32)) → (∃ n0 : Nat, w_X12_digest_148  post  n0 (0 : Int32) M)) ∧ ((¬ (M.1 0 3) ≤ (1 : Int32)) → (w_X12_meetNow (0 : Int32) (1 : Int32) (2 : Int32) (0 : Int32) M (fun r22 M23 => w_X12_mix r22 M23 (fun M26 => w_X12_meetNow (0 : Int32) (1 : Int32) (2 : Int32) (1 : Int32) M26 (fun r28 M29 => w_X12_mix r28 M29 (fun M32 => ∃ n0 : Nat, w_X12_digest_148  post  n0 (0 : Int32) M32)))))))) ∧ ((¬ (M.1 0 2) ≤ v1) → ((vp_in v1 7) ∧ (w_X12_mix ((M.1 1 v1.toNatClampNeg).toInt64) M (fun M36 => w_X12_mix ((M36.1 2 v1.toNatClampNeg).toInt64) M36 (fun M39 => w_X12_mix ((M39.1 3 v1.toNatClampNeg).toInt64) M39 (fun M42 => w_X12_pairsNow v1 (0 : Int32) M42 (fun r44 M45 => w_X12_mix (r44.toInt64) M45 (fun M48 => ∃ n0 : Nat, w_X12_digest_85  post (w_X12_digest_30  post  n) n0 v1 (10 : Int32) M48))))))))
def w_X12_digest_9  (post : Int64 → Mm → Prop)  : Nat → Int32 → Mm → Prop
  | 0 => fun _ _ => False
  | n + 1 => fun v1 M =>
    (((M.1 0 3) ≤ v1) → (∃ n0 : Nat, w_X12_digest_30  post  n0 (0 : Int32) M)) ∧ ((¬ (M.1 0 3) ≤ v1) → (w_X12_mixPerson v1 M (fun M52 => w_X12_digest_9  post  n (v1 + 1) M52)))
def w_X12_digest  (M : Mm) (post : Int64 → Mm → Prop) : Prop :=
  ∀ M54 : Mm, M54 = wJ M 0 (vp_updL (M.2 0) 48 (1193 : Int64)) → (∃ n0 : Nat, w_X12_digest_9  post  n0 (0 : Int32) M54)
theorem iw_X12_digest_X12 : ∀ w ∈ u_ws RX12 TX12 49, w ∈ wsX12_digest := by decide +kernel
theorem m_X12_digest_f333 : Cond.fieldLink RX12 333 "ShameYardsModel" "h" "J" ∈ wsX12_digest := by decide +kernel
theorem m_X12_digest_f112 : Cond.fieldLink RX12 112 "ShameYardsModel" "pageLength" "I" ∈ wsX12_digest := by decide +kernel
theorem m_X12_digest_f46 : Cond.fieldLink RX12 46 "ShameYardsModel" "page" "[B" ∈ wsX12_digest := by decide +kernel
theorem m_X12_digest_f153 : Cond.fieldLink RX12 153 "ShameYardsModel" "passages" "I" ∈ wsX12_digest := by decide +kernel
theorem m_X12_digest_f156 : Cond.fieldLink RX12 156 "ShameYardsModel" "people" "I" ∈ wsX12_digest := by decide +kernel
theorem m_X12_digest_f7 : Cond.fieldLink RX12 7 "ShameYardsModel" "oneEnd" "[I" ∈ wsX12_digest := by decide +kernel
theorem m_X12_digest_f13 : Cond.fieldLink RX12 13 "ShameYardsModel" "otherEnd" "[I" ∈ wsX12_digest := by decide +kernel
theorem m_X12_digest_f16 : Cond.fieldLink RX12 16 "ShameYardsModel" "lengthOf" "[I" ∈ wsX12_digest := by decide +kernel
theorem m_X12_digest_c340 : Jvm.Cond.constantLong RX12 340 (1193) ∈ wsX12_digest := by decide +kernel
set_option maxHeartbeats 4000000 in
set_option maxRecDepth 100000 in
theorem c_X12_digest (l : Launch) (D : va_G) (cy : Nat → ClassId) (ad : Nat → Nat) (A : Nat → Prop) (G : Gd A ad nsM)    (M : Mm) (post : Int64 → Mm → Prop) (h : w_X12_digest  M post) : CL l yX12_digest wsX12_digest (rmL 9) D (tysC cy) A ad nsM (ceM ad cy) ExM [.ref (ad 0)] M post := by
  refine Met_V (cc := cX12_digest) (maxL := 3) (ret := (some .long)) (by decide) rfl G Lo_M ExM_ok (Nat.le_of_ble_eq_true rfl) rfl ?_
  intro p e s m args below meth c C hr hlk
  have C : Cx p s m args c cX12_digest 3 RX12 wsX12_digest D (tysC cy) A ad nsM (ceM ad cy) ExM := C
  have L85 : ∀ (k30 : Int32 → Mm → Prop) (hk30 : ∀ (v1 : Int32) (M : Mm), k30 v1 M → V p l e (rmL 9) s m args below meth c (MQ below (va_Ql post (Wd D (tysC cy) ad nsM (ceM ad cy) ExM) A) args s 0 0 A) D A ad nsM (ceM ad cy) 3 M [(0, .ref (ad 0)), (1, .int v1)] 30 []) (n : Nat) (v1 : Int32) (v2 : Int32) (M : Mm), w_X12_digest_85  post k30 n v1 v2 M → V p l e (rmL 9) s m args below meth c (MQ below (va_Ql post (Wd D (tysC cy) ad nsM (ceM ad cy) ExM) A) args s 0 0 A) D A ad nsM (ceM ad cy) 3 M [(0, .ref (ad 0)), (1, .int v1), (2, .int v2)] 85 [] := by
    intro k30 hk30 n
    induction n with
    | zero => intro v1 v2 M h; exact h.elim
    | succ n ih =>
    intro v1 v2 M h 
    unfold w_X12_digest_85 at h
    refine V_iload_n C 2 dX12_digest_85 rfl ?_
    refine V_bipush (v := (15 : Int32)) C dX12_digest_86 (by decide) ?_
    refine V_icmp_ge C 108 dX12_digest_88 (by decide) (fun q1 => ?_) (fun q1 => ?_)
    · have h := h.1 q1
      refine V_iinc (v := (v1 + 1)) (lv' := [(1, .int (v1 + 1)), (0, .ref (ad 0)), (2, .int v2)]) C 1 dX12_digest_108 rfl rfl (by decide) rfl ?_
      refine V_goto C 30 dX12_digest_111 (by decide) ?_
      refine V_drop (lv' := [(0, .ref (ad 0)), (1, .int (v1 + 1))]) [1, 0] rfl ?_
      exact hk30 (v1 + 1) M h 
    · have h := h.2 q1
      refine V_aload_n C 0 dX12_digest_91 rfl ?_
      refine V_aload_n C 0 dX12_digest_92 rfl ?_
      refine V_iload_n C 1 dX12_digest_93 rfl ?_
      refine V_iload_n C 2 dX12_digest_94 rfl ?_
      refine V_callVi (q := (RX12, TX12, 49)) (rest := [.ref (ad 0)]) C (nsM_mem (by decide)) (ceM_0 _) rfl (c_X12_pairsNow l D cy ad A G v1 v2 M _ h) (cwV 2 C.1.2.2.2.2 gX12_digest_X12_pairsNow rfl rfl rfl (by decide +kernel) ⟨by decide, by decide⟩) rfl rfl (Nat.le_of_ble_eq_true rfl) dX12_digest_95 (fun r2 M3 h => ?_)
      refine V_i2l C dX12_digest_98 ?_
      refine V_callVv (q := (RX12, TX12, 49)) (rest := []) C (nsM_mem (by decide)) (ceM_0 _) rfl (c_X12_mix l D cy ad A G (r2.toInt64) M3 _ h) (cwV 1 C.1.2.2.2.2 gX12_digest_X12_mix rfl rfl rfl (by decide +kernel) ⟨by decide, by decide⟩) rfl rfl (Nat.le_of_ble_eq_true rfl) dX12_digest_99 (fun M6 h => ?_)
      refine V_iinc (v := (v2 + 1)) (lv' := [(2, .int (v2 + 1)), (0, .ref (ad 0)), (1, .int v1)]) C 2 dX12_digest_102 rfl rfl (by decide) rfl ?_
      refine V_goto C 85 dX12_digest_105 (by decide) ?_
      refine V_drop (lv' := [(0, .ref (ad 0)), (1, .int v1), (2, .int (v2 + 1))]) [1, 2, 0] rfl ?_
      exact ih v1 (v2 + 1) M6 h 
  have L175 : ∀  (n : Nat) (v1 : Int32) (M : Mm), w_X12_digest_175  post  n v1 M → V p l e (rmL 9) s m args below meth c (MQ below (va_Ql post (Wd D (tysC cy) ad nsM (ceM ad cy) ExM) A) args s 0 0 A) D A ad nsM (ceM ad cy) 3 M [(0, .ref (ad 0)), (1, .int v1)] 175 [] := by
    intro  n
    induction n with
    | zero => intro v1 M h; exact h.elim
    | succ n ih =>
    intro v1 M h 
    unfold w_X12_digest_175 at h
    refine V_iload_n C 1 dX12_digest_175 rfl ?_
    refine V_bipush (v := (12 : Int32)) C dX12_digest_176 (by decide) ?_
    refine V_icmp_ge C 197 dX12_digest_178 (by decide) (fun q8 => ?_) (fun q8 => ?_)
    · have h := h.1 q8
      refine V_aload_n C 0 dX12_digest_197 rfl ?_
      refine V_get (k0 := 48) (Cn := RX12) (T := TX12) (N := 49) C (nsM_mem (by decide)) rfl iw_X12_digest_X12 (by decide) rfl m_X12_digest_f333 (ceM_0 _) rfl dX12_digest_198 ?_
      exact V_lret C hr hlk dX12_digest_201 h
    · have h := h.2 q8
      refine V_aload_n C 0 dX12_digest_181 rfl ?_
      refine V_aload_n C 0 dX12_digest_182 rfl ?_
      refine V_iload_n C 1 dX12_digest_183 rfl ?_
      refine V_callVi (q := (RX12, TX12, 49)) (rest := [.ref (ad 0)]) C (nsM_mem (by decide)) (ceM_0 _) rfl (c_X12_howMany l D cy ad A G v1 M _ h) (cwV 1 C.1.2.2.2.2 gX12_digest_X12_howMany rfl rfl rfl (by decide +kernel) ⟨by decide, by decide⟩) rfl rfl (Nat.le_of_ble_eq_true rfl) dX12_digest_184 (fun r9 M10 h => ?_)
      refine V_i2l C dX12_digest_187 ?_
      refine V_callVv (q := (RX12, TX12, 49)) (rest := []) C (nsM_mem (by decide)) (ceM_0 _) rfl (c_X12_mix l D cy ad A G (r9.toInt64) M10 _ h) (cwV 1 C.1.2.2.2.2 gX12_digest_X12_mix rfl rfl rfl (by decide +kernel) ⟨by decide, by decide⟩) rfl rfl (Nat.le_of_ble_eq_true rfl) dX12_digest_188 (fun M13 h => ?_)
      refine V_iinc (v := (v1 + 1)) (lv' := [(1, .int (v1 + 1)), (0, .ref (ad 0))]) C 1 dX12_digest_191 rfl rfl (by decide) rfl ?_
      refine V_goto C 175 dX12_digest_194 (by decide) ?_
      refine V_drop (lv' := [(0, .ref (ad 0)), (1, .int (v1 + 1))]) [1, 0] rfl ?_
      exact ih (v1 + 1) M13 h 
  have L148 : ∀  (n : Nat) (v1 : Int32) (M : Mm), w_X12_digest_148  post  n v1 M → V p l e (rmL 9) s m args below meth c (MQ below (va_Ql post (Wd D (tysC cy) ad nsM (ceM ad cy) ExM) A) args s 0 0 A) D A ad nsM (ceM ad cy) 3 M [(0, .ref (ad 0)), (1, .int v1)] 148 [] := by
    intro  n
    induction n with
    | zero => intro v1 M h; exact h.elim
    | succ n ih =>
    intro v1 M h 
    unfold w_X12_digest_148 at h
    refine V_iload_n C 1 dX12_digest_148 rfl ?_
    refine V_aload_n C 0 dX12_digest_149 rfl ?_
    refine V_get (k0 := 19) (Cn := RX12) (T := TX12) (N := 49) C (nsM_mem (by decide)) rfl iw_X12_digest_X12 (by decide) rfl m_X12_digest_f112 (ceM_0 _) rfl dX12_digest_150 ?_
    refine V_icmp_ge C 173 dX12_digest_153 (by decide) (fun q15 => ?_) (fun q15 => ?_)
    · have h := h.1 q15
      refine V_iconst (v := (0 : Int32)) C dX12_digest_173 (by decide) ?_
      refine V_istore_n (lv' := [(1, .int (0 : Int32)), (0, .ref (ad 0))]) C dX12_digest_174 rfl (by decide) rfl ?_
      refine V_drop (lv' := [(0, .ref (ad 0)), (1, .int (0 : Int32))]) [1, 0] rfl ?_
      obtain ⟨n0, h⟩ := h
      exact L175  n0 (0 : Int32) M h 
    · have h := h.2 q15
      refine V_aload_n C 0 dX12_digest_156 rfl ?_
      refine V_aload_n C 0 dX12_digest_157 rfl ?_
      refine V_get (k0 := 20) (Cn := RX12) (T := TX12) (N := 49) C (nsM_mem (by decide)) rfl iw_X12_digest_X12 (by decide) rfl m_X12_digest_f46 (ceM_0 _) rfl dX12_digest_158 ?_
      refine V_iload_n C 1 dX12_digest_161 rfl ?_
      have g16 := h.1
      have h := h.2
      refine V_bald (t0 := 0) (L := 52) C (nsM_mem (by decide)) (fun _ => rfl) rfl g16 dX12_digest_162 ?_
      refine V_i2l C dX12_digest_163 ?_
      refine V_callVv (q := (RX12, TX12, 49)) (rest := []) C (nsM_mem (by decide)) (ceM_0 _) rfl (c_X12_mix l D cy ad A G ((M.1 13 v1.toNatClampNeg).toInt64) M _ h) (cwV 1 C.1.2.2.2.2 gX12_digest_X12_mix rfl rfl rfl (by decide +kernel) ⟨by decide, by decide⟩) rfl rfl (Nat.le_of_ble_eq_true rfl) dX12_digest_164 (fun M18 h => ?_)
      refine V_iinc (v := (v1 + 1)) (lv' := [(1, .int (v1 + 1)), (0, .ref (ad 0))]) C 1 dX12_digest_167 rfl rfl (by decide) rfl ?_
      refine V_goto C 148 dX12_digest_170 (by decide) ?_
      refine V_drop (lv' := [(0, .ref (ad 0)), (1, .int (v1 + 1))]) [1, 0] rfl ?_
      exact ih (v1 + 1) M18 h 
  have L30 : ∀  (n : Nat) (v1 : Int32) (M : Mm), w_X12_digest_30  post  n v1 M → V p l e (rmL 9) s m args below meth c (MQ below (va_Ql post (Wd D (tysC cy) ad nsM (ceM ad cy) ExM) A) args s 0 0 A) D A ad nsM (ceM ad cy) 3 M [(0, .ref (ad 0)), (1, .int v1)] 30 [] := by
    intro  n
    induction n with
    | zero => intro v1 M h; exact h.elim
    | succ n ih =>
    intro v1 M h 
    unfold w_X12_digest_30 at h
    refine V_iload_n C 1 dX12_digest_30 rfl ?_
    refine V_aload_n C 0 dX12_digest_31 rfl ?_
    refine V_get (k0 := 2) (Cn := RX12) (T := TX12) (N := 49) C (nsM_mem (by decide)) rfl iw_X12_digest_X12 (by decide) rfl m_X12_digest_f153 (ceM_0 _) rfl dX12_digest_32 ?_
    refine V_icmp_ge C 114 dX12_digest_35 (by decide) (fun q20 => ?_) (fun q20 => ?_)
    · have h := h.1 q20
      refine V_aload_n C 0 dX12_digest_114 rfl ?_
      refine V_get (k0 := 3) (Cn := RX12) (T := TX12) (N := 49) C (nsM_mem (by decide)) rfl iw_X12_digest_X12 (by decide) rfl m_X12_digest_f156 (ceM_0 _) rfl dX12_digest_115 ?_
      refine V_iconst (v := (1 : Int32)) C dX12_digest_118 (by decide) ?_
      refine V_icmp_le C 146 dX12_digest_119 (by decide) (fun q21 => ?_) (fun q21 => ?_)
      · have h := h.1 q21
        refine V_iconst (v := (0 : Int32)) C dX12_digest_146 (by decide) ?_
        refine V_istore_n (lv' := [(1, .int (0 : Int32)), (0, .ref (ad 0))]) C dX12_digest_147 rfl (by decide) rfl ?_
        refine V_drop (lv' := [(0, .ref (ad 0)), (1, .int (0 : Int32))]) [1, 0] rfl ?_
        obtain ⟨n0, h⟩ := h
        exact L148  n0 (0 : Int32) M h 
      · have h := h.2 q21
        refine V_aload_n C 0 dX12_digest_122 rfl ?_
        refine V_aload_n C 0 dX12_digest_123 rfl ?_
        refine V_iconst (v := (0 : Int32)) C dX12_digest_124 (by decide) ?_
        refine V_iconst (v := (1 : Int32)) C dX12_digest_125 (by decide) ?_
        refine V_iconst (v := (2 : Int32)) C dX12_digest_126 (by decide) ?_
        refine V_iconst (v := (0 : Int32)) C dX12_digest_127 (by decide) ?_
        refine V_callVl (q := (RX12, TX12, 49)) (rest := [.ref (ad 0)]) C (nsM_mem (by decide)) (ceM_0 _) rfl (c_X12_meetNow l D cy ad A G (0 : Int32) (1 : Int32) (2 : Int32) (0 : Int32) M _ h) (cwV 4 C.1.2.2.2.2 gX12_digest_X12_meetNow rfl rfl rfl (by decide +kernel) ⟨by decide, by decide⟩) rfl rfl (Nat.le_of_ble_eq_true rfl) dX12_digest_128 (fun r22 M23 h => ?_)
        refine V_callVv (q := (RX12, TX12, 49)) (rest := []) C (nsM_mem (by decide)) (ceM_0 _) rfl (c_X12_mix l D cy ad A G r22 M23 _ h) (cwV 1 C.1.2.2.2.2 gX12_digest_X12_mix rfl rfl rfl (by decide +kernel) ⟨by decide, by decide⟩) rfl rfl (Nat.le_of_ble_eq_true rfl) dX12_digest_131 (fun M26 h => ?_)
        refine V_aload_n C 0 dX12_digest_134 rfl ?_
        refine V_aload_n C 0 dX12_digest_135 rfl ?_
        refine V_iconst (v := (0 : Int32)) C dX12_digest_136 (by decide) ?_
        refine V_iconst (v := (1 : Int32)) C dX12_digest_137 (by decide) ?_
        refine V_iconst (v := (2 : Int32)) C dX12_digest_138 (by decide) ?_
        refine V_iconst (v := (1 : Int32)) C dX12_digest_139 (by decide) ?_
        refine V_callVl (q := (RX12, TX12, 49)) (rest := [.ref (ad 0)]) C (nsM_mem (by decide)) (ceM_0 _) rfl (c_X12_meetNow l D cy ad A G (0 : Int32) (1 : Int32) (2 : Int32) (1 : Int32) M26 _ h) (cwV 4 C.1.2.2.2.2 gX12_digest_X12_meetNow rfl rfl rfl (by decide +kernel) ⟨by decide, by decide⟩) rfl rfl (Nat.le_of_ble_eq_true rfl) dX12_digest_140 (fun r28 M29 h => ?_)
        refine V_callVv (q := (RX12, TX12, 49)) (rest := []) C (nsM_mem (by decide)) (ceM_0 _) rfl (c_X12_mix l D cy ad A G r28 M29 _ h) (cwV 1 C.1.2.2.2.2 gX12_digest_X12_mix rfl rfl rfl (by decide +kernel) ⟨by decide, by decide⟩) rfl rfl (Nat.le_of_ble_eq_true rfl) dX12_digest_143 (fun M32 h => ?_)
        refine V_iconst (v := (0 : Int32)) C dX12_digest_146 (by decide) ?_
        refine V_istore_n (lv' := [(1, .int (0 : Int32)), (0, .ref (ad 0))]) C dX12_digest_147 rfl (by decide) rfl ?_
        refine V_drop (lv' := [(0, .ref (ad 0)), (1, .int (0 : Int32))]) [1, 0] rfl ?_
        obtain ⟨n0, h⟩ := h
        exact L148  n0 (0 : Int32) M32 h 
    · have h := h.2 q20
      refine V_aload_n C 0 dX12_digest_38 rfl ?_
      refine V_aload_n C 0 dX12_digest_39 rfl ?_
      refine V_get (k0 := 4) (Cn := RX12) (T := TX12) (N := 49) C (nsM_mem (by decide)) rfl iw_X12_digest_X12 (by decide) rfl m_X12_digest_f7 (ceM_0 _) rfl dX12_digest_40 ?_
      refine V_iload_n C 1 dX12_digest_43 rfl ?_
      have g34 := h.1
      have h := h.2
      refine V_iald (t0 := 1) (L := 7) C (nsM_mem (by decide)) (fun _ => rfl) rfl g34 dX12_digest_44 ?_
      refine V_i2l C dX12_digest_45 ?_
      refine V_callVv (q := (RX12, TX12, 49)) (rest := []) C (nsM_mem (by decide)) (ceM_0 _) rfl (c_X12_mix l D cy ad A G ((M.1 1 v1.toNatClampNeg).toInt64) M _ h) (cwV 1 C.1.2.2.2.2 gX12_digest_X12_mix rfl rfl rfl (by decide +kernel) ⟨by decide, by decide⟩) rfl rfl (Nat.le_of_ble_eq_true rfl) dX12_digest_46 (fun M36 h => ?_)
      refine V_aload_n C 0 dX12_digest_49 rfl ?_
      refine V_aload_n C 0 dX12_digest_50 rfl ?_
      refine V_get (k0 := 5) (Cn := RX12) (T := TX12) (N := 49) C (nsM_mem (by decide)) rfl iw_X12_digest_X12 (by decide) rfl m_X12_digest_f13 (ceM_0 _) rfl dX12_digest_51 ?_
      refine V_iload_n C 1 dX12_digest_54 rfl ?_
      refine V_iald (t0 := 1) (L := 7) C (nsM_mem (by decide)) (fun _ => rfl) rfl g34 dX12_digest_55 ?_
      refine V_i2l C dX12_digest_56 ?_
      refine V_callVv (q := (RX12, TX12, 49)) (rest := []) C (nsM_mem (by decide)) (ceM_0 _) rfl (c_X12_mix l D cy ad A G ((M36.1 2 v1.toNatClampNeg).toInt64) M36 _ h) (cwV 1 C.1.2.2.2.2 gX12_digest_X12_mix rfl rfl rfl (by decide +kernel) ⟨by decide, by decide⟩) rfl rfl (Nat.le_of_ble_eq_true rfl) dX12_digest_57 (fun M39 h => ?_)
      refine V_aload_n C 0 dX12_digest_60 rfl ?_
      refine V_aload_n C 0 dX12_digest_61 rfl ?_
      refine V_get (k0 := 6) (Cn := RX12) (T := TX12) (N := 49) C (nsM_mem (by decide)) rfl iw_X12_digest_X12 (by decide) rfl m_X12_digest_f16 (ceM_0 _) rfl dX12_digest_62 ?_
      refine V_iload_n C 1 dX12_digest_65 rfl ?_
      refine V_iald (t0 := 1) (L := 7) C (nsM_mem (by decide)) (fun _ => rfl) rfl g34 dX12_digest_66 ?_
      refine V_i2l C dX12_digest_67 ?_
      refine V_callVv (q := (RX12, TX12, 49)) (rest := []) C (nsM_mem (by decide)) (ceM_0 _) rfl (c_X12_mix l D cy ad A G ((M39.1 3 v1.toNatClampNeg).toInt64) M39 _ h) (cwV 1 C.1.2.2.2.2 gX12_digest_X12_mix rfl rfl rfl (by decide +kernel) ⟨by decide, by decide⟩) rfl rfl (Nat.le_of_ble_eq_true rfl) dX12_digest_68 (fun M42 h => ?_)
      refine V_aload_n C 0 dX12_digest_71 rfl ?_
      refine V_aload_n C 0 dX12_digest_72 rfl ?_
      refine V_iload_n C 1 dX12_digest_73 rfl ?_
      refine V_iconst (v := (0 : Int32)) C dX12_digest_74 (by decide) ?_
      refine V_callVi (q := (RX12, TX12, 49)) (rest := [.ref (ad 0)]) C (nsM_mem (by decide)) (ceM_0 _) rfl (c_X12_pairsNow l D cy ad A G v1 (0 : Int32) M42 _ h) (cwV 2 C.1.2.2.2.2 gX12_digest_X12_pairsNow rfl rfl rfl (by decide +kernel) ⟨by decide, by decide⟩) rfl rfl (Nat.le_of_ble_eq_true rfl) dX12_digest_75 (fun r44 M45 h => ?_)
      refine V_i2l C dX12_digest_78 ?_
      refine V_callVv (q := (RX12, TX12, 49)) (rest := []) C (nsM_mem (by decide)) (ceM_0 _) rfl (c_X12_mix l D cy ad A G (r44.toInt64) M45 _ h) (cwV 1 C.1.2.2.2.2 gX12_digest_X12_mix rfl rfl rfl (by decide +kernel) ⟨by decide, by decide⟩) rfl rfl (Nat.le_of_ble_eq_true rfl) dX12_digest_79 (fun M48 h => ?_)
      refine V_bipush (v := (10 : Int32)) C dX12_digest_82 (by decide) ?_
      refine V_istore_n (lv' := [(2, .int (10 : Int32)), (0, .ref (ad 0)), (1, .int v1)]) C dX12_digest_84 rfl (by decide) rfl ?_
      refine V_drop (lv' := [(0, .ref (ad 0)), (1, .int v1), (2, .int (10 : Int32))]) [1, 2, 0] rfl ?_
      obtain ⟨n0, h⟩ := h
      exact L85 (w_X12_digest_30  post  n) ih n0 v1 (10 : Int32) M48 h 
  have L9 : ∀  (n : Nat) (v1 : Int32) (M : Mm), w_X12_digest_9  post  n v1 M → V p l e (rmL 9) s m args below meth c (MQ below (va_Ql post (Wd D (tysC cy) ad nsM (ceM ad cy) ExM) A) args s 0 0 A) D A ad nsM (ceM ad cy) 3 M [(0, .ref (ad 0)), (1, .int v1)] 9 [] := by
    intro  n
    induction n with
    | zero => intro v1 M h; exact h.elim
    | succ n ih =>
    intro v1 M h 
    unfold w_X12_digest_9 at h
    refine V_iload_n C 1 dX12_digest_9 rfl ?_
    refine V_aload_n C 0 dX12_digest_10 rfl ?_
    refine V_get (k0 := 3) (Cn := RX12) (T := TX12) (N := 49) C (nsM_mem (by decide)) rfl iw_X12_digest_X12 (by decide) rfl m_X12_digest_f156 (ceM_0 _) rfl dX12_digest_11 ?_
    refine V_icmp_ge C 28 dX12_digest_14 (by decide) (fun q50 => ?_) (fun q50 => ?_)
    · have h := h.1 q50
      refine V_iconst (v := (0 : Int32)) C dX12_digest_28 (by decide) ?_
      refine V_istore_n (lv' := [(1, .int (0 : Int32)), (0, .ref (ad 0))]) C dX12_digest_29 rfl (by decide) rfl ?_
      refine V_drop (lv' := [(0, .ref (ad 0)), (1, .int (0 : Int32))]) [1, 0] rfl ?_
      obtain ⟨n0, h⟩ := h
      exact L30  n0 (0 : Int32) M h 
    · have h := h.2 q50
      refine V_aload_n C 0 dX12_digest_17 rfl ?_
      refine V_iload_n C 1 dX12_digest_18 rfl ?_
      refine V_callVv (q := (RX12, TX12, 49)) (rest := []) C (nsM_mem (by decide)) (ceM_0 _) rfl (c_X12_mixPerson l D cy ad A G v1 M _ h) (cwV 1 C.1.2.2.2.2 gX12_digest_X12_mixPerson rfl rfl rfl (by decide +kernel) ⟨by decide, by decide⟩) rfl rfl (Nat.le_of_ble_eq_true rfl) dX12_digest_19 (fun M52 h => ?_)
      refine V_iinc (v := (v1 + 1)) (lv' := [(1, .int (v1 + 1)), (0, .ref (ad 0))]) C 1 dX12_digest_22 rfl rfl (by decide) rfl ?_
      refine V_goto C 9 dX12_digest_25 (by decide) ?_
      refine V_drop (lv' := [(0, .ref (ad 0)), (1, .int (v1 + 1))]) [1, 0] rfl ?_
      exact ih (v1 + 1) M52 h 
  unfold w_X12_digest at h
  refine V_aload_n C 0 dX12_digest_0 rfl ?_
  refine V_ldc2 (v := (1193 : Int64)) C dX12_digest_1 m_X12_digest_c340 ?_
  refine V_putJ (k0 := 48) (Cn := RX12) (T := TX12) (N := 49) C (nsM_mem (by decide)) rfl iw_X12_digest_X12 (by decide) rfl m_X12_digest_f333 tyX12_ok nmX12 rfl (show _ = some FieldType.long by decide +kernel) rfl rfl (Nat.le_of_ble_eq_true rfl) (ceM_0 _) (stM0_48  _ _) dX12_digest_4 (fun M54 e55 => ?_)
  have h := h M54 e55
  refine V_iconst (v := (0 : Int32)) C dX12_digest_7 (by decide) ?_
  refine V_istore_n (lv' := [(1, .int (0 : Int32)), (0, .ref (ad 0))]) C dX12_digest_8 rfl (by decide) rfl ?_
  refine V_drop (lv' := [(0, .ref (ad 0)), (1, .int (0 : Int32))]) [1, 0] rfl ?_
  obtain ⟨n0, h⟩ := h
  exact L9  n0 (0 : Int32) M54 h 
