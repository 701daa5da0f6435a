def w_X11_far_58  (post : Int32 → Mm → Prop)  (v1 : Int32) (v2 : Int32) (v3 : Int32) (v4 : Int32) (M : Mm) : Prop :=
    w_X9_measure v1 v3 M (fun M2 => ((¬ v4 = 0) → (w_X9_legFrom v2 (v4 - (10 : Int32)) M2 (fun r5 M6 => post r5 M6))) ∧ ((v4 = 0) → (w_X9_stepsFrom v2 M2 (fun r8 M9 => post r8 M9))))
def w_X11_far (x1 : Int32) (x2 : Int32) (x3 : Int32) (x4 : Int32) (M : Mm) (post : Int32 → Mm → Prop) : Prop :=
  w_X2_hasPerson 3 x1 M (fun r11 M12 => ((r11 = 0) → (post (-101 : Int32) M12)) ∧ ((¬ r11 = 0) → (w_X2_hasRoom 3 x2 M12 (fun r15 M16 => ((r15 = 0) → (post (-101 : Int32) M16)) ∧ ((¬ r15 = 0) → (w_X2_hasRoom 3 x3 M16 (fun r19 M20 => ((¬ r19 = 0) → (((x4 = 0) → (w_X11_far_58  post  x1 x2 x3 x4 M20)) ∧ ((¬ x4 = 0) → (((x4 < (10 : Int32)) → (post (-102 : Int32) M20)) ∧ ((¬ x4 < (10 : Int32)) → (((x4 ≤ (13 : Int32)) → (w_X11_far_58  post  x1 x2 x3 x4 M20)) ∧ ((¬ x4 ≤ (13 : Int32)) → (post (-102 : Int32) M20)))))))) ∧ ((r19 = 0) → (post (-101 : Int32) M20)))))))))
theorem iw_X11_far_X11 : ∀ w ∈ u_ws RX11 TX11 9, w ∈ wsX11_far := by decide +kernel
theorem m_X11_far_f29 : Cond.fieldLink RX11 29 "ShameYards" "ways" "LShameYards$Ways;" ∈ wsX11_far := by decide +kernel
theorem m_X11_far_f19 : Cond.fieldLink RX11 19 "ShameYards" "now" "LShameYards$House;" ∈ wsX11_far := by decide +kernel
set_option maxHeartbeats 4000000 in
set_option maxRecDepth 100000 in
theorem c_X11_far (l : Launch) (D : va_G) (cy : Nat → ClassId) (ad : Nat → Nat) (A : Nat → Prop) (G : Gd A ad nsX)   (x1 : Int32) (x2 : Int32) (x3 : Int32) (x4 : Int32) (M : Mm) (post : Int32 → Mm → Prop) (h : w_X11_far x1 x2 x3 x4 M post) : CI l yX11_far wsX11_far (rmL 6) D (tysC cy) A ad nsX (ceX ad cy) (ExX A ad) [.ref (ad 0), .int x1, .int x2, .int x3, .int x4] M post := by
  refine Met_V (cc := cX11_far) (maxL := 5) (ret := (some .int)) (by decide) rfl G Lo_X ExX_ok (Nat.le_of_ble_eq_true rfl) rfl ?_
  intro p e s m args below meth c C hr hlk
  have C : Cx p s m args c cX11_far 5 RX11 wsX11_far D (tysC cy) A ad nsX (ceX ad cy) (ExX A ad) := C
  have L58 : ∀  (v1 : Int32) (v2 : Int32) (v3 : Int32) (v4 : Int32) (M : Mm), w_X11_far_58  post  v1 v2 v3 v4 M → V p l e (rmL 6) s m args below meth c (MQ below (va_Qi post (Wd D (tysC cy) ad nsX (ceX ad cy) (ExX A ad)) A) args s 0 0 A) D A ad nsX (ceX ad cy) 5 M [(0, .ref (ad 0)), (1, .int v1), (2, .int v2), (3, .int v3), (4, .int v4)] 58 [] := by
    intro  v1 v2 v3 v4 M h 
    unfold w_X11_far_58 at h
    refine V_aload_n C 0 dX11_far_58 rfl ?_
    refine V_get (k0 := 3) (Cn := RX11) (T := TX11) (N := 9) C (nsX_mem (by decide)) rfl iw_X11_far_X11 (by decide) rfl m_X11_far_f29 (ceX_0 _) rfl dX11_far_59 ?_
    refine V_aload_n C 0 dX11_far_62 rfl ?_
    refine V_get (k0 := 1) (Cn := RX11) (T := TX11) (N := 9) C (nsX_mem (by decide)) rfl iw_X11_far_X11 (by decide) rfl m_X11_far_f19 (ceX_0 _) rfl dX11_far_63 ?_
    refine V_iload_n C 1 dX11_far_66 rfl ?_
    refine V_iload_n C 3 dX11_far_67 rfl ?_
    refine V_callVv (q := (RX9, TX9, 6)) (rest := []) C (nsX_mem (by decide)) (ceX_60 _) rfl (c_X9_measure l D cy ad A G v1 v3 M _ h) (cwV 3 C.1.2.2.2.2 gX11_far_X9_measure rfl rfl rfl (by decide +kernel) ⟨by decide, by decide⟩) rfl rfl (Nat.le_of_ble_eq_true rfl) dX11_far_68 (fun M2 h => ?_)
    refine V_iload C 4 dX11_far_71 rfl ?_
    refine V_if_ne C 87 dX11_far_73 (by decide) (fun q4 => ?_) (fun q4 => ?_)
    · have h := h.1 q4
      refine V_aload_n C 0 dX11_far_87 rfl ?_
      refine V_get (k0 := 3) (Cn := RX11) (T := TX11) (N := 9) C (nsX_mem (by decide)) rfl iw_X11_far_X11 (by decide) rfl m_X11_far_f29 (ceX_0 _) rfl dX11_far_88 ?_
      refine V_aload_n C 0 dX11_far_91 rfl ?_
      refine V_get (k0 := 1) (Cn := RX11) (T := TX11) (N := 9) C (nsX_mem (by decide)) rfl iw_X11_far_X11 (by decide) rfl m_X11_far_f19 (ceX_0 _) rfl dX11_far_92 ?_
      refine V_iload_n C 2 dX11_far_95 rfl ?_
      refine V_iload C 4 dX11_far_96 rfl ?_
      refine V_bipush (v := (10 : Int32)) C dX11_far_98 (by decide) ?_
      refine V_isub C dX11_far_100 ?_
      refine V_callVi (q := (RX9, TX9, 6)) (rest := []) C (nsX_mem (by decide)) (ceX_60 _) rfl (c_X9_legFrom l D cy ad A G v2 (v4 - (10 : Int32)) M2 _ h) (cwV 3 C.1.2.2.2.2 gX11_far_X9_legFrom rfl rfl rfl (by decide +kernel) ⟨by decide, by decide⟩) rfl rfl (Nat.le_of_ble_eq_true rfl) dX11_far_101 (fun r5 M6 h => ?_)
      exact V_iret C hr hlk dX11_far_104 h
    · have h := h.2 q4
      refine V_aload_n C 0 dX11_far_76 rfl ?_
      refine V_get (k0 := 3) (Cn := RX11) (T := TX11) (N := 9) C (nsX_mem (by decide)) rfl iw_X11_far_X11 (by decide) rfl m_X11_far_f29 (ceX_0 _) rfl dX11_far_77 ?_
      refine V_iload_n C 2 dX11_far_80 rfl ?_
      refine V_callVi (q := (RX9, TX9, 6)) (rest := []) C (nsX_mem (by decide)) (ceX_60 _) rfl (c_X9_stepsFrom l D cy ad A G v2 M2 _ h) (cwV 1 C.1.2.2.2.2 gX11_far_X9_stepsFrom rfl rfl rfl (by decide +kernel) ⟨by decide, by decide⟩) rfl rfl (Nat.le_of_ble_eq_true rfl) dX11_far_81 (fun r8 M9 h => ?_)
      refine V_goto C 104 dX11_far_84 (by decide) ?_
      exact V_iret C hr hlk dX11_far_104 h
  unfold w_X11_far at h
  refine V_aload_n C 0 dX11_far_0 rfl ?_
  refine V_get (k0 := 1) (Cn := RX11) (T := TX11) (N := 9) C (nsX_mem (by decide)) rfl iw_X11_far_X11 (by decide) rfl m_X11_far_f19 (ceX_0 _) rfl dX11_far_1 ?_
  refine V_iload_n C 1 dX11_far_4 rfl ?_
  refine V_callVi (q := (RX2, TX2, 18)) (rest := []) C (nsX_mem (by decide)) (ceX_3 _) rfl (c_X2_hasPerson l D cy ad A G 3 (by decide) x1 M _ h) (cwV 1 C.1.2.2.2.2 gX11_far_X2_hasPerson rfl rfl rfl (by decide +kernel) ⟨by decide, by decide⟩) rfl rfl (Nat.le_of_ble_eq_true rfl) dX11_far_5 (fun r11 M12 h => ?_)
  obtain ⟨z13, h⟩ := h
  refine V_if_eq C 33 dX11_far_8 (by decide) (fun q14 => ?_) (fun q14 => ?_)
  · have h := h.1 q14
    refine V_bipush (v := (-101 : Int32)) C dX11_far_33 (by decide) ?_
    exact V_iret C hr hlk dX11_far_35 h
  · have h := h.2 q14
    refine V_aload_n C 0 dX11_far_11 rfl ?_
    refine V_get (k0 := 1) (Cn := RX11) (T := TX11) (N := 9) C (nsX_mem (by decide)) rfl iw_X11_far_X11 (by decide) rfl m_X11_far_f19 (ceX_0 _) rfl dX11_far_12 ?_
    refine V_iload_n C 2 dX11_far_15 rfl ?_
    refine V_callVi (q := (RX2, TX2, 18)) (rest := []) C (nsX_mem (by decide)) (ceX_3 _) rfl (c_X2_hasRoom l D cy ad A G 3 (by decide) x2 M12 _ h) (cwV 1 C.1.2.2.2.2 gX11_far_X2_hasRoom rfl rfl rfl (by decide +kernel) ⟨by decide, by decide⟩) rfl rfl (Nat.le_of_ble_eq_true rfl) dX11_far_16 (fun r15 M16 h => ?_)
    obtain ⟨z17, h⟩ := h
    refine V_if_eq C 33 dX11_far_19 (by decide) (fun q18 => ?_) (fun q18 => ?_)
    · have h := h.1 q18
      refine V_bipush (v := (-101 : Int32)) C dX11_far_33 (by decide) ?_
      exact V_iret C hr hlk dX11_far_35 h
    · have h := h.2 q18
      refine V_aload_n C 0 dX11_far_22 rfl ?_
      refine V_get (k0 := 1) (Cn := RX11) (T := TX11) (N := 9) C (nsX_mem (by decide)) rfl iw_X11_far_X11 (by decide) rfl m_X11_far_f19 (ceX_0 _) rfl dX11_far_23 ?_
      refine V_iload_n C 3 dX11_far_26 rfl ?_
      refine V_callVi (q := (RX2, TX2, 18)) (rest := []) C (nsX_mem (by decide)) (ceX_3 _) rfl (c_X2_hasRoom l D cy ad A G 3 (by decide) x3 M16 _ h) (cwV 1 C.1.2.2.2.2 gX11_far_X2_hasRoom rfl rfl rfl (by decide +kernel) ⟨by decide, by decide⟩) rfl rfl (Nat.le_of_ble_eq_true rfl) dX11_far_27 (fun r19 M20 h => ?_)
      obtain ⟨z21, h⟩ := h
      refine V_if_ne C 36 dX11_far_30 (by decide) (fun q22 => ?_) (fun q22 => ?_)
      · have h := h.1 q22
        refine V_iload C 4 dX11_far_36 rfl ?_
        refine V_if_eq C 58 dX11_far_38 (by decide) (fun q23 => ?_) (fun q23 => ?_)
        · have h := h.1 q23
          refine V_drop (lv' := [(0, .ref (ad 0)), (1, .int x1), (2, .int x2), (3, .int x3), (4, .int x4)]) [0, 1, 2, 3, 4] rfl ?_
          exact L58  x1 x2 x3 x4 M20 h 
        · have h := h.2 q23
          refine V_iload C 4 dX11_far_41 rfl ?_
          refine V_bipush (v := (10 : Int32)) C dX11_far_43 (by decide) ?_
          refine V_icmp_lt C 55 dX11_far_45 (by decide) (fun q24 => ?_) (fun q24 => ?_)
          · have h := h.1 q24
            refine V_bipush (v := (-102 : Int32)) C dX11_far_55 (by decide) ?_
            exact V_iret C hr hlk dX11_far_57 h
          · have h := h.2 q24
            refine V_iload C 4 dX11_far_48 rfl ?_
            refine V_bipush (v := (13 : Int32)) C dX11_far_50 (by decide) ?_
            refine V_icmp_le C 58 dX11_far_52 (by decide) (fun q25 => ?_) (fun q25 => ?_)
            · have h := h.1 q25
              refine V_drop (lv' := [(0, .ref (ad 0)), (1, .int x1), (2, .int x2), (3, .int x3), (4, .int x4)]) [0, 1, 2, 3, 4] rfl ?_
              exact L58  x1 x2 x3 x4 M20 h 
            · have h := h.2 q25
              refine V_bipush (v := (-102 : Int32)) C dX11_far_55 (by decide) ?_
              exact V_iret C hr hlk dX11_far_57 h
      · have h := h.2 q22
        refine V_bipush (v := (-101 : Int32)) C dX11_far_33 (by decide) ?_
        exact V_iret C hr hlk dX11_far_35 h
def w_X11_send_19  (post : Int32 → Mm → Prop)  (v1 : Int32) (M : Mm) : Prop :=
    w_X2_isThere 3 M (fun r1 M2 => ((r1 = 0) → (post (-103 : Int32) M2)) ∧ ((¬ r1 = 0) → ((((M2.1 0 8) < (30 : Int32)) → (∀ M6 : Mm, M6 = wI M2 0 (upd (M2.1 0) 8 ((M2.1 0 8) + (1 : Int32))) → (w_X9_assign  M6 (fun M9 => ((¬ v1 = 0) → (w_X9_assignedTo (v1 - (10 : Int32)) M9 (fun r12 M13 => post r12 M13))) ∧ ((v1 = 0) → (w_X9_assignedSteps  M9 (fun r15 M16 => post r15 M16))))))) ∧ ((¬ (M2.1 0 8) < (30 : Int32)) → (post (-103 : Int32) M2)))))
def w_X11_send (x1 : Int32) (M : Mm) (post : Int32 → Mm → Prop) : Prop :=
  ((x1 = 0) → (w_X11_send_19  post  x1 M)) ∧ ((¬ x1 = 0) → (((x1 < (11 : Int32)) → (post (-102 : Int32) M)) ∧ ((¬ x1 < (11 : Int32)) → (((x1 ≤ (14 : Int32)) → (w_X11_send_19  post  x1 M)) ∧ ((¬ x1 ≤ (14 : Int32)) → (post (-102 : Int32) M))))))
theorem iw_X11_send_X11 : ∀ w ∈ u_ws RX11 TX11 9, w ∈ wsX11_send := by decide +kernel
theorem m_X11_send_f19 : Cond.fieldLink RX11 19 "ShameYards" "now" "LShameYards$House;" ∈ wsX11_send := by decide +kernel
theorem m_X11_send_f173 : Cond.fieldLink RX11 173 "ShameYards" "sends" "I" ∈ wsX11_send := by decide +kernel
theorem m_X11_send_f29 : Cond.fieldLink RX11 29 "ShameYards" "ways" "LShameYards$Ways;" ∈ wsX11_send := by decide +kernel
set_option maxHeartbeats 4000000 in
set_option maxRecDepth 100000 in
theorem c_X11_send (l : Launch) (D : va_G) (cy : Nat → ClassId) (ad : Nat → Nat) (A : Nat → Prop) (G : Gd A ad nsX)   (x1 : Int32) (M : Mm) (post : Int32 → Mm → Prop) (h : w_X11_send x1 M post) : CI l yX11_send wsX11_send (rmL 12) D (tysC cy) A ad nsX (ceX ad cy) (ExX A ad) [.ref (ad 0), .int x1] M post := by
  refine Met_V (cc := cX11_send) (maxL := 2) (ret := (some .int)) (by decide) rfl G Lo_X ExX_ok (Nat.le_of_ble_eq_true rfl) rfl ?_
  intro p e s m args below meth c C hr hlk
  have C : Cx p s m args c cX11_send 2 RX11 wsX11_send D (tysC cy) A ad nsX (ceX ad cy) (ExX A ad) := C
  have L19 : ∀  (v1 : Int32) (M : Mm), w_X11_send_19  post  v1 M → V p l e (rmL 12) s m args below meth c (MQ below (va_Qi post (Wd D (tysC cy) ad nsX (ceX ad cy) (ExX A ad)) A) args s 0 0 A) D A ad nsX (ceX ad cy) 2 M [(0, .ref (ad 0)), (1, .int v1)] 19 [] := by
    intro  v1 M h 
    unfold w_X11_send_19 at h
    refine V_aload_n C 0 dX11_send_19 rfl ?_
    refine V_get (k0 := 1) (Cn := RX11) (T := TX11) (N := 9) C (nsX_mem (by decide)) rfl iw_X11_send_X11 (by decide) rfl m_X11_send_f19 (ceX_0 _) rfl dX11_send_20 ?_
    refine V_callVi (q := (RX2, TX2, 18)) (rest := []) C (nsX_mem (by decide)) (ceX_3 _) rfl (c_X2_isThere l D cy ad A G 3 (by decide) M _ h) (cwV 0 C.1.2.2.2.2 gX11_send_X2_isThere rfl rfl rfl (by decide +kernel) ⟨by decide, by decide⟩) rfl rfl (Nat.le_of_ble_eq_true rfl) dX11_send_23 (fun r1 M2 h => ?_)
    obtain ⟨z3, h⟩ := h
    refine V_if_eq C 38 dX11_send_26 (by decide) (fun q4 => ?_) (fun q4 => ?_)
    · have h := h.1 q4
      refine V_bipush (v := (-103 : Int32)) C dX11_send_38 (by decide) ?_
      exact V_iret C hr hlk dX11_send_40 h
    · have h := h.2 q4
      refine V_aload_n C 0 dX11_send_29 rfl ?_
      refine V_get (k0 := 8) (Cn := RX11) (T := TX11) (N := 9) C (nsX_mem (by decide)) rfl iw_X11_send_X11 (by decide) rfl m_X11_send_f173 (ceX_0 _) rfl dX11_send_30 ?_
      refine V_bipush (v := (30 : Int32)) C dX11_send_33 (by decide) ?_
      refine V_icmp_lt C 41 dX11_send_35 (by decide) (fun q5 => ?_) (fun q5 => ?_)
      · have h := h.1 q5
        refine V_aload_n C 0 dX11_send_41 rfl ?_
        refine V_dup C dX11_send_42 rfl ?_
        refine V_get (k0 := 8) (Cn := RX11) (T := TX11) (N := 9) C (nsX_mem (by decide)) rfl iw_X11_send_X11 (by decide) rfl m_X11_send_f173 (ceX_0 _) rfl dX11_send_43 ?_
        refine V_iconst (v := (1 : Int32)) C dX11_send_46 (by decide) ?_
        refine V_iadd C dX11_send_47 ?_
        refine V_putI (k0 := 8) (Cn := RX11) (T := TX11) (N := 9) C (nsX_mem (by decide)) rfl iw_X11_send_X11 (by decide) rfl m_X11_send_f173 tyX11_ok nmX11 rfl (show _ = some FieldType.int by decide +kernel) rfl rfl (Nat.le_of_ble_eq_true rfl) (ceX_0 _) (stX0_8  _ _) dX11_send_48 (fun M6 e7 => ?_)
        have h := h M6 e7
        refine V_aload_n C 0 dX11_send_51 rfl ?_
        refine V_get (k0 := 3) (Cn := RX11) (T := TX11) (N := 9) C (nsX_mem (by decide)) rfl iw_X11_send_X11 (by decide) rfl m_X11_send_f29 (ceX_0 _) rfl dX11_send_52 ?_
        refine V_aload_n C 0 dX11_send_55 rfl ?_
        refine V_get (k0 := 1) (Cn := RX11) (T := TX11) (N := 9) C (nsX_mem (by decide)) rfl iw_X11_send_X11 (by decide) rfl m_X11_send_f19 (ceX_0 _) rfl dX11_send_56 ?_
        refine V_callVv (q := (RX9, TX9, 6)) (rest := []) C (nsX_mem (by decide)) (ceX_60 _) rfl (c_X9_assign l D cy ad A G  M6 _ h) (cwV 1 C.1.2.2.2.2 gX11_send_X9_assign rfl rfl rfl (by decide +kernel) ⟨by decide, by decide⟩) rfl rfl (Nat.le_of_ble_eq_true rfl) dX11_send_59 (fun M9 h => ?_)
        refine V_iload_n C 1 dX11_send_62 rfl ?_
        refine V_if_ne C 76 dX11_send_63 (by decide) (fun q11 => ?_) (fun q11 => ?_)
        · have h := h.1 q11
          refine V_aload_n C 0 dX11_send_76 rfl ?_
          refine V_get (k0 := 3) (Cn := RX11) (T := TX11) (N := 9) C (nsX_mem (by decide)) rfl iw_X11_send_X11 (by decide) rfl m_X11_send_f29 (ceX_0 _) rfl dX11_send_77 ?_
          refine V_aload_n C 0 dX11_send_80 rfl ?_
          refine V_get (k0 := 1) (Cn := RX11) (T := TX11) (N := 9) C (nsX_mem (by decide)) rfl iw_X11_send_X11 (by decide) rfl m_X11_send_f19 (ceX_0 _) rfl dX11_send_81 ?_
          refine V_iload_n C 1 dX11_send_84 rfl ?_
          refine V_bipush (v := (10 : Int32)) C dX11_send_85 (by decide) ?_
          refine V_isub C dX11_send_87 ?_
          refine V_callVi (q := (RX9, TX9, 6)) (rest := []) C (nsX_mem (by decide)) (ceX_60 _) rfl (c_X9_assignedTo l D cy ad A G (v1 - (10 : Int32)) M9 _ h) (cwV 2 C.1.2.2.2.2 gX11_send_X9_assignedTo rfl rfl rfl (by decide +kernel) ⟨by decide, by decide⟩) rfl rfl (Nat.le_of_ble_eq_true rfl) dX11_send_88 (fun r12 M13 h => ?_)
          exact V_iret C hr hlk dX11_send_91 h
        · have h := h.2 q11
          refine V_aload_n C 0 dX11_send_66 rfl ?_
          refine V_get (k0 := 3) (Cn := RX11) (T := TX11) (N := 9) C (nsX_mem (by decide)) rfl iw_X11_send_X11 (by decide) rfl m_X11_send_f29 (ceX_0 _) rfl dX11_send_67 ?_
          refine V_callVi (q := (RX9, TX9, 6)) (rest := []) C (nsX_mem (by decide)) (ceX_60 _) rfl (c_X9_assignedSteps l D cy ad A G  M9 _ h) (cwV 0 C.1.2.2.2.2 gX11_send_X9_assignedSteps rfl rfl rfl (by decide +kernel) ⟨by decide, by decide⟩) rfl rfl (Nat.le_of_ble_eq_true rfl) dX11_send_70 (fun r15 M16 h => ?_)
          refine V_goto C 91 dX11_send_73 (by decide) ?_
          exact V_iret C hr hlk dX11_send_91 h
      · have h := h.2 q5
        refine V_bipush (v := (-103 : Int32)) C dX11_send_38 (by decide) ?_
        exact V_iret C hr hlk dX11_send_40 h
  unfold w_X11_send at h
  refine V_iload_n C 1 dX11_send_0 rfl ?_
  refine V_if_eq C 19 dX11_send_1 (by decide) (fun q18 => ?_) (fun q18 => ?_)
  · have h := h.1 q18
    refine V_drop (lv' := [(0, .ref (ad 0)), (1, .int x1)]) [0, 1] rfl ?_
    exact L19  x1 M h 
  · have h := h.2 q18
    refine V_iload_n C 1 dX11_send_4 rfl ?_
    refine V_bipush (v := (11 : Int32)) C dX11_send_5 (by decide) ?_
    refine V_icmp_lt C 16 dX11_send_7 (by decide) (fun q19 => ?_) (fun q19 => ?_)
    · have h := h.1 q19
      refine V_bipush (v := (-102 : Int32)) C dX11_send_16 (by decide) ?_
      exact V_iret C hr hlk dX11_send_18 h
    · have h := h.2 q19
      refine V_iload_n C 1 dX11_send_10 rfl ?_
      refine V_bipush (v := (14 : Int32)) C dX11_send_11 (by decide) ?_
      refine V_icmp_le C 19 dX11_send_13 (by decide) (fun q20 => ?_) (fun q20 => ?_)
      · have h := h.1 q20
        refine V_drop (lv' := [(0, .ref (ad 0)), (1, .int x1)]) [0, 1] rfl ?_
        exact L19  x1 M h 
      · have h := h.2 q20
        refine V_bipush (v := (-102 : Int32)) C dX11_send_16 (by decide) ?_
        exact V_iret C hr hlk dX11_send_18 h
def w_X11_pairs_33  (post : Int32 → Mm → Prop)  (v1 : Int32) (v2 : Int32) (M : Mm) : Prop :=
    w_X6_arrange v1 M (fun M2 => ((¬ v2 = 0) → (w_X6_partnerOf (v2 - (10 : Int32)) M2 (fun r5 M6 => post r5 M6))) ∧ ((v2 = 0) → (post (M2.1 71 4) M2)))
def w_X11_pairs (x1 : Int32) (x2 : Int32) (M : Mm) (post : Int32 → Mm → Prop) : Prop :=
  w_X2_hasPassage 3 x1 M (fun r8 M9 => ((¬ r8 = 0) → (((x2 = 0) → (w_X11_pairs_33  post  x1 x2 M9)) ∧ ((¬ x2 = 0) → (((x2 < (10 : Int32)) → (post (-102 : Int32) M9)) ∧ ((¬ x2 < (10 : Int32)) → (((x2 ≤ (14 : Int32)) → (w_X11_pairs_33  post  x1 x2 M9)) ∧ ((¬ x2 ≤ (14 : Int32)) → (post (-102 : Int32) M9)))))))) ∧ ((r8 = 0) → (post (-101 : Int32) M9)))
theorem iw_X11_pairs_X11 : ∀ w ∈ u_ws RX11 TX11 9, w ∈ wsX11_pairs := by decide +kernel
theorem iw_X11_pairs_X6 : ∀ w ∈ u_ws RX6 TX6 6, w ∈ wsX11_pairs := by decide +kernel
theorem m_X11_pairs_f36 : Cond.fieldLink RX11 36 "ShameYards" "pairing" "LShameYards$Pairing;" ∈ wsX11_pairs := by decide +kernel
theorem m_X11_pairs_f19 : Cond.fieldLink RX11 19 "ShameYards" "now" "LShameYards$House;" ∈ wsX11_pairs := by decide +kernel
theorem m_X11_pairs_f190 : Cond.fieldLink RX11 190 "ShameYards$Pairing" "leastMost" "I" ∈ wsX11_pairs := by decide +kernel
set_option maxHeartbeats 4000000 in
set_option maxRecDepth 100000 in
theorem c_X11_pairs (l : Launch) (D : va_G) (cy : Nat → ClassId) (ad : Nat → Nat) (A : Nat → Prop) (G : Gd A ad nsX)   (x1 : Int32) (x2 : Int32) (M : Mm) (post : Int32 → Mm → Prop) (h : w_X11_pairs x1 x2 M post) : CI l yX11_pairs wsX11_pairs (rmL 13) D (tysC cy) A ad nsX (ceX ad cy) (ExX A ad) [.ref (ad 0), .int x1, .int x2] M post := by
  refine Met_V (cc := cX11_pairs) (maxL := 3) (ret := (some .int)) (by decide) rfl G Lo_X ExX_ok (Nat.le_of_ble_eq_true rfl) rfl ?_
  intro p e s m args below meth c C hr hlk
  have C : Cx p s m args c cX11_pairs 3 RX11 wsX11_pairs D (tysC cy) A ad nsX (ceX ad cy) (ExX A ad) := C
  have L33 : ∀  (v1 : Int32) (v2 : Int32) (M : Mm), w_X11_pairs_33  post  v1 v2 M → V p l e (rmL 13) s m args below meth c (MQ below (va_Qi post (Wd D (tysC cy) ad nsX (ceX ad cy) (ExX A ad)) A) args s 0 0 A) D A ad nsX (ceX ad cy) 3 M [(0, .ref (ad 0)), (1, .int v1), (2, .int v2)] 33 [] := by
    intro  v1 v2 M h 
    unfold w_X11_pairs_33 at h
    refine V_aload_n C 0 dX11_pairs_33 rfl ?_
    refine V_get (k0 := 4) (Cn := RX11) (T := TX11) (N := 9) C (nsX_mem (by decide)) rfl iw_X11_pairs_X11 (by decide) rfl m_X11_pairs_f36 (ceX_0 _) rfl dX11_pairs_34 ?_
    refine V_aload_n C 0 dX11_pairs_37 rfl ?_
    refine V_get (k0 := 1) (Cn := RX11) (T := TX11) (N := 9) C (nsX_mem (by decide)) rfl iw_X11_pairs_X11 (by decide) rfl m_X11_pairs_f19 (ceX_0 _) rfl dX11_pairs_38 ?_
    refine V_iload_n C 1 dX11_pairs_41 rfl ?_
    refine V_callVv (q := (RX6, TX6, 6)) (rest := []) C (nsX_mem (by decide)) (ceX_71 _) rfl (c_X6_arrange l D cy ad A G v1 M _ h) (cwV 2 C.1.2.2.2.2 gX11_pairs_X6_arrange rfl rfl rfl (by decide +kernel) ⟨by decide, by decide⟩) rfl rfl (Nat.le_of_ble_eq_true rfl) dX11_pairs_42 (fun M2 h => ?_)
    refine V_iload_n C 2 dX11_pairs_45 rfl ?_
    refine V_if_ne C 59 dX11_pairs_46 (by decide) (fun q4 => ?_) (fun q4 => ?_)
    · have h := h.1 q4
      refine V_aload_n C 0 dX11_pairs_59 rfl ?_
      refine V_get (k0 := 4) (Cn := RX11) (T := TX11) (N := 9) C (nsX_mem (by decide)) rfl iw_X11_pairs_X11 (by decide) rfl m_X11_pairs_f36 (ceX_0 _) rfl dX11_pairs_60 ?_
      refine V_aload_n C 0 dX11_pairs_63 rfl ?_
      refine V_get (k0 := 1) (Cn := RX11) (T := TX11) (N := 9) C (nsX_mem (by decide)) rfl iw_X11_pairs_X11 (by decide) rfl m_X11_pairs_f19 (ceX_0 _) rfl dX11_pairs_64 ?_
      refine V_iload_n C 2 dX11_pairs_67 rfl ?_
      refine V_bipush (v := (10 : Int32)) C dX11_pairs_68 (by decide) ?_
      refine V_isub C dX11_pairs_70 ?_
      refine V_callVi (q := (RX6, TX6, 6)) (rest := []) C (nsX_mem (by decide)) (ceX_71 _) rfl (c_X6_partnerOf l D cy ad A G (v2 - (10 : Int32)) M2 _ h) (cwV 2 C.1.2.2.2.2 gX11_pairs_X6_partnerOf rfl rfl rfl (by decide +kernel) ⟨by decide, by decide⟩) rfl rfl (Nat.le_of_ble_eq_true rfl) dX11_pairs_71 (fun r5 M6 h => ?_)
      exact V_iret C hr hlk dX11_pairs_74 h
    · have h := h.2 q4
      refine V_aload_n C 0 dX11_pairs_49 rfl ?_
      refine V_get (k0 := 4) (Cn := RX11) (T := TX11) (N := 9) C (nsX_mem (by decide)) rfl iw_X11_pairs_X11 (by decide) rfl m_X11_pairs_f36 (ceX_0 _) rfl dX11_pairs_50 ?_
      refine V_get (k0 := 4) (Cn := RX6) (T := TX6) (N := 6) C (nsX_mem (by decide)) rfl iw_X11_pairs_X6 (by decide) rfl m_X11_pairs_f190 (ceX_71 _) rfl dX11_pairs_53 ?_
      refine V_goto C 74 dX11_pairs_56 (by decide) ?_
      exact V_iret C hr hlk dX11_pairs_74 h
  unfold w_X11_pairs at h
  refine V_aload_n C 0 dX11_pairs_0 rfl ?_
  refine V_get (k0 := 1) (Cn := RX11) (T := TX11) (N := 9) C (nsX_mem (by decide)) rfl iw_X11_pairs_X11 (by decide) rfl m_X11_pairs_f19 (ceX_0 _) rfl dX11_pairs_1 ?_
  refine V_iload_n C 1 dX11_pairs_4 rfl ?_
  refine V_callVi (q := (RX2, TX2, 18)) (rest := []) C (nsX_mem (by decide)) (ceX_3 _) rfl (c_X2_hasPassage l D cy ad A G 3 (by decide) x1 M _ h) (cwV 1 C.1.2.2.2.2 gX11_pairs_X2_hasPassage rfl rfl rfl (by decide +kernel) ⟨by decide, by decide⟩) rfl rfl (Nat.le_of_ble_eq_true rfl) dX11_pairs_5 (fun r8 M9 h => ?_)
  obtain ⟨z10, h⟩ := h
  refine V_if_ne C 14 dX11_pairs_8 (by decide) (fun q11 => ?_) (fun q11 => ?_)
  · have h := h.1 q11
    refine V_iload_n C 2 dX11_pairs_14 rfl ?_
    refine V_if_eq C 33 dX11_pairs_15 (by decide) (fun q12 => ?_) (fun q12 => ?_)
    · have h := h.1 q12
      refine V_drop (lv' := [(0, .ref (ad 0)), (1, .int x1), (2, .int x2)]) [0, 1, 2] rfl ?_
      exact L33  x1 x2 M9 h 
    · have h := h.2 q12
      refine V_iload_n C 2 dX11_pairs_18 rfl ?_
      refine V_bipush (v := (10 : Int32)) C dX11_pairs_19 (by decide) ?_
      refine V_icmp_lt C 30 dX11_pairs_21 (by decide) (fun q13 => ?_) (fun q13 => ?_)
      · have h := h.1 q13
        refine V_bipush (v := (-102 : Int32)) C dX11_pairs_30 (by decide) ?_
        exact V_iret C hr hlk dX11_pairs_32 h
      · have h := h.2 q13
        refine V_iload_n C 2 dX11_pairs_24 rfl ?_
        refine V_bipush (v := (14 : Int32)) C dX11_pairs_25 (by decide) ?_
        refine V_icmp_le C 33 dX11_pairs_27 (by decide) (fun q14 => ?_) (fun q14 => ?_)
        · have h := h.1 q14
          refine V_drop (lv' := [(0, .ref (ad 0)), (1, .int x1), (2, .int x2)]) [0, 1, 2] rfl ?_
          exact L33  x1 x2 M9 h 
        · have h := h.2 q14
          refine V_bipush (v := (-102 : Int32)) C dX11_pairs_30 (by decide) ?_
          exact V_iret C hr hlk dX11_pairs_32 h
  · have h := h.2 q11
    refine V_bipush (v := (-101 : Int32)) C dX11_pairs_11 (by decide) ?_
    exact V_iret C hr hlk dX11_pairs_13 h
def w_X11_meet (x1 : Int32) (x2 : Int32) (x3 : Int32) (x4 : Int32) (M : Mm) (post : Int64 → Mm → Prop) : Prop :=
  w_X2_hasPerson 3 x1 M (fun r1 M2 => ((r1 = 0) → (post (-101 : Int64) M2)) ∧ ((¬ r1 = 0) → (w_X2_hasPerson 3 x2 M2 (fun r5 M6 => ((r5 = 0) → (post (-101 : Int64) M6)) ∧ ((¬ r5 = 0) → (((¬ x1 = x2) → (((x3 < (1 : Int32)) → (post (-102 : Int64) M6)) ∧ ((¬ x3 < (1 : Int32)) → ((((3 : Int32) < x3) → (post (-102 : Int64) M6)) ∧ ((¬ (3 : Int32) < x3) → (((x4 < 0) → (post (-102 : Int64) M6)) ∧ ((¬ x4 < 0) → (((x4 ≤ (1 : Int32)) → (w_X8_compare x1 x2 x3 M6 (fun M15 => ((¬ x4 = 0) → (post (M15.2 80 5) M15)) ∧ ((x4 = 0) → (post (M15.2 80 4) M15))))) ∧ ((¬ x4 ≤ (1 : Int32)) → (post (-102 : Int64) M6)))))))))) ∧ ((x1 = x2) → (post (-101 : Int64) M6))))))))
theorem iw_X11_meet_X11 : ∀ w ∈ u_ws RX11 TX11 9, w ∈ wsX11_meet := by decide +kernel
theorem iw_X11_meet_X8 : ∀ w ∈ u_ws RX8 TX8 8, w ∈ wsX11_meet := by decide +kernel
theorem m_X11_meet_f19 : Cond.fieldLink RX11 19 "ShameYards" "now" "LShameYards$House;" ∈ wsX11_meet := by decide +kernel
theorem m_X11_meet_c196 : Jvm.Cond.constantLong RX11 196 (-101) ∈ wsX11_meet := by decide +kernel
theorem m_X11_meet_c198 : Jvm.Cond.constantLong RX11 198 (-102) ∈ wsX11_meet := by decide +kernel
theorem m_X11_meet_f43 : Cond.fieldLink RX11 43 "ShameYards" "wander" "LShameYards$Wander;" ∈ wsX11_meet := by decide +kernel
theorem m_X11_meet_f208 : Cond.fieldLink RX11 208 "ShameYards$Wander" "below" "J" ∈ wsX11_meet := by decide +kernel
theorem m_X11_meet_f204 : Cond.fieldLink RX11 204 "ShameYards$Wander" "above" "J" ∈ wsX11_meet := by decide +kernel
set_option maxHeartbeats 4000000 in
set_option maxRecDepth 100000 in
theorem c_X11_meet (l : Launch) (D : va_G) (cy : Nat → ClassId) (ad : Nat → Nat) (A : Nat → Prop) (G : Gd A ad nsX)   (x1 : Int32) (x2 : Int32) (x3 : Int32) (x4 : Int32) (M : Mm) (post : Int64 → Mm → Prop) (h : w_X11_meet x1 x2 x3 x4 M post) : CL l yX11_meet wsX11_meet (rmL 7) D (tysC cy) A ad nsX (ceX ad cy) (ExX A ad) [.ref (ad 0), .int x1, .int x2, .int x3, .int x4] M post := by
  refine Met_V (cc := cX11_meet) (maxL := 5) (ret := (some .long)) (by decide) rfl G Lo_X ExX_ok (Nat.le_of_ble_eq_true rfl) rfl ?_
  intro p e s m args below meth c C hr hlk
  have C : Cx p s m args c cX11_meet 5 RX11 wsX11_meet D (tysC cy) A ad nsX (ceX ad cy) (ExX A ad) := C
  unfold w_X11_meet at h
  refine V_aload_n C 0 dX11_meet_0 rfl ?_
  refine V_get (k0 := 1) (Cn := RX11) (T := TX11) (N := 9) C (nsX_mem (by decide)) rfl iw_X11_meet_X11 (by decide) rfl m_X11_meet_f19 (ceX_0 _) rfl dX11_meet_1 ?_
  refine V_iload_n C 1 dX11_meet_4 rfl ?_
  refine V_callVi (q := (RX2, TX2, 18)) (rest := []) C (nsX_mem (by decide)) (ceX_3 _) rfl (c_X2_hasPerson l D cy ad A G 3 (by decide) x1 M _ h) (cwV 1 C.1.2.2.2.2 gX11_meet_X2_hasPerson rfl rfl rfl (by decide +kernel) ⟨by decide, by decide⟩) rfl rfl (Nat.le_of_ble_eq_true rfl) dX11_meet_5 (fun r1 M2 h => ?_)
  obtain ⟨z3, h⟩ := h
  refine V_if_eq C 27 dX11_meet_8 (by decide) (fun q4 => ?_) (fun q4 => ?_)
  · have h := h.1 q4
    refine V_ldc2 (v := (-101 : Int64)) C dX11_meet_27 m_X11_meet_c196 ?_
    exact V_lret C hr hlk dX11_meet_30 h
  · have h := h.2 q4
    refine V_aload_n C 0 dX11_meet_11 rfl ?_
    refine V_get (k0 := 1) (Cn := RX11) (T := TX11) (N := 9) C (nsX_mem (by decide)) rfl iw_X11_meet_X11 (by decide) rfl m_X11_meet_f19 (ceX_0 _) rfl dX11_meet_12 ?_
    refine V_iload_n C 2 dX11_meet_15 rfl ?_
    refine V_callVi (q := (RX2, TX2, 18)) (rest := []) C (nsX_mem (by decide)) (ceX_3 _) rfl (c_X2_hasPerson l D cy ad A G 3 (by decide) x2 M2 _ h) (cwV 1 C.1.2.2.2.2 gX11_meet_X2_hasPerson rfl rfl rfl (by decide +kernel) ⟨by decide, by decide⟩) rfl rfl (Nat.le_of_ble_eq_true rfl) dX11_meet_16 (fun r5 M6 h => ?_)
    obtain ⟨z7, h⟩ := h
    refine V_if_eq C 27 dX11_meet_19 (by decide) (fun q8 => ?_) (fun q8 => ?_)
    · have h := h.1 q8
      refine V_ldc2 (v := (-101 : Int64)) C dX11_meet_27 m_X11_meet_c196 ?_
      exact V_lret C hr hlk dX11_meet_30 h
    · have h := h.2 q8
      refine V_iload_n C 1 dX11_meet_22 rfl ?_
      refine V_iload_n C 2 dX11_meet_23 rfl ?_
      refine V_icmp_ne C 31 dX11_meet_24 (by decide) (fun q9 => ?_) (fun q9 => ?_)
      · have h := h.1 q9
        refine V_iload_n C 3 dX11_meet_31 rfl ?_
        refine V_iconst (v := (1 : Int32)) C dX11_meet_32 (by decide) ?_
        refine V_icmp_lt C 52 dX11_meet_33 (by decide) (fun q10 => ?_) (fun q10 => ?_)
        · have h := h.1 q10
          refine V_ldc2 (v := (-102 : Int64)) C dX11_meet_52 m_X11_meet_c198 ?_
          exact V_lret C hr hlk dX11_meet_55 h
        · have h := h.2 q10
          refine V_iload_n C 3 dX11_meet_36 rfl ?_
          refine V_iconst (v := (3 : Int32)) C dX11_meet_37 (by decide) ?_
          refine V_icmp_gt C 52 dX11_meet_38 (by decide) (fun q11 => ?_) (fun q11 => ?_)
          · have h := h.1 q11
            refine V_ldc2 (v := (-102 : Int64)) C dX11_meet_52 m_X11_meet_c198 ?_
            exact V_lret C hr hlk dX11_meet_55 h
          · have h := h.2 q11
            refine V_iload C 4 dX11_meet_41 rfl ?_
            refine V_if_lt C 52 dX11_meet_43 (by decide) (fun q12 => ?_) (fun q12 => ?_)
            · have h := h.1 q12
              refine V_ldc2 (v := (-102 : Int64)) C dX11_meet_52 m_X11_meet_c198 ?_
              exact V_lret C hr hlk dX11_meet_55 h
            · have h := h.2 q12
              refine V_iload C 4 dX11_meet_46 rfl ?_
              refine V_iconst (v := (1 : Int32)) C dX11_meet_48 (by decide) ?_
              refine V_icmp_le C 56 dX11_meet_49 (by decide) (fun q13 => ?_) (fun q13 => ?_)
              · have h := h.1 q13
                refine V_aload_n C 0 dX11_meet_56 rfl ?_
                refine V_get (k0 := 5) (Cn := RX11) (T := TX11) (N := 9) C (nsX_mem (by decide)) rfl iw_X11_meet_X11 (by decide) rfl m_X11_meet_f43 (ceX_0 _) rfl dX11_meet_57 ?_
                refine V_aload_n C 0 dX11_meet_60 rfl ?_
                refine V_get (k0 := 1) (Cn := RX11) (T := TX11) (N := 9) C (nsX_mem (by decide)) rfl iw_X11_meet_X11 (by decide) rfl m_X11_meet_f19 (ceX_0 _) rfl dX11_meet_61 ?_
                refine V_iload_n C 1 dX11_meet_64 rfl ?_
                refine V_iload_n C 2 dX11_meet_65 rfl ?_
                refine V_iload_n C 3 dX11_meet_66 rfl ?_
                refine V_callVv (q := (RX8, TX8, 8)) (rest := []) C (nsX_mem (by decide)) (ceX_80 _) rfl (c_X8_compare l D cy ad A G x1 x2 x3 M6 _ h) (cwV 4 C.1.2.2.2.2 gX11_meet_X8_compare rfl rfl rfl (by decide +kernel) ⟨by decide, by decide⟩) rfl rfl (Nat.le_of_ble_eq_true rfl) dX11_meet_67 (fun M15 h => ?_)
                refine V_iload C 4 dX11_meet_70 rfl ?_
                refine V_if_ne C 85 dX11_meet_72 (by decide) (fun q17 => ?_) (fun q17 => ?_)
                · have h := h.1 q17
                  refine V_aload_n C 0 dX11_meet_85 rfl ?_
                  refine V_get (k0 := 5) (Cn := RX11) (T := TX11) (N := 9) C (nsX_mem (by decide)) rfl iw_X11_meet_X11 (by decide) rfl m_X11_meet_f43 (ceX_0 _) rfl dX11_meet_86 ?_
                  refine V_get (k0 := 5) (Cn := RX8) (T := TX8) (N := 8) C (nsX_mem (by decide)) rfl iw_X11_meet_X8 (by decide) rfl m_X11_meet_f208 (ceX_80 _) rfl dX11_meet_89 ?_
                  exact V_lret C hr hlk dX11_meet_92 h
                · have h := h.2 q17
                  refine V_aload_n C 0 dX11_meet_75 rfl ?_
                  refine V_get (k0 := 5) (Cn := RX11) (T := TX11) (N := 9) C (nsX_mem (by decide)) rfl iw_X11_meet_X11 (by decide) rfl m_X11_meet_f43 (ceX_0 _) rfl dX11_meet_76 ?_
                  refine V_get (k0 := 4) (Cn := RX8) (T := TX8) (N := 8) C (nsX_mem (by decide)) rfl iw_X11_meet_X8 (by decide) rfl m_X11_meet_f204 (ceX_80 _) rfl dX11_meet_79 ?_
                  refine V_goto C 92 dX11_meet_82 (by decide) ?_
                  exact V_lret C hr hlk dX11_meet_92 h
              · have h := h.2 q13
                refine V_ldc2 (v := (-102 : Int64)) C dX11_meet_52 m_X11_meet_c198 ?_
                exact V_lret C hr hlk dX11_meet_55 h
      · have h := h.2 q9
        refine V_ldc2 (v := (-101 : Int64)) C dX11_meet_27 m_X11_meet_c196 ?_
        exact V_lret C hr hlk dX11_meet_30 h
def w_X11_see (x1 : Int32) (x2 : Int32) (x3 : Int32) (x4 : Int32) (M : Mm) (post : Int32 → Mm → Prop) : Prop :=
  w_X2_knows 3 x1 x2 x3 M (fun r1 M2 => ((¬ r1 = 0) → (((x4 < 0) → (post (-102 : Int32) M2)) ∧ ((¬ x4 < 0) → (((x4 ≤ (120 : Int32)) → ((((M2.1 3 13) < (6 : Int32)) → (w_X2_note 3 x1 x2 x3 x4 M2 (fun M9 => post (M9.1 3 13) M9))) ∧ ((¬ (M2.1 3 13) < (6 : Int32)) → (post (-104 : Int32) M2)))) ∧ ((¬ x4 ≤ (120 : Int32)) → (post (-102 : Int32) M2)))))) ∧ ((r1 = 0) → (post (-101 : Int32) M2)))
theorem iw_X11_see_X11 : ∀ w ∈ u_ws RX11 TX11 9, w ∈ wsX11_see := by decide +kernel
theorem iw_X11_see_X2 : ∀ w ∈ u_ws RX2 TX2 18, w ∈ wsX11_see := by decide +kernel
theorem m_X11_see_f19 : Cond.fieldLink RX11 19 "ShameYards" "now" "LShameYards$House;" ∈ wsX11_see := by decide +kernel
theorem m_X11_see_f211 : Cond.fieldLink RX11 211 "ShameYards$House" "seenCount" "I" ∈ wsX11_see := by decide +kernel
set_option maxHeartbeats 4000000 in
set_option maxRecDepth 100000 in
theorem c_X11_see (l : Launch) (D : va_G) (cy : Nat → ClassId) (ad : Nat → Nat) (A : Nat → Prop) (G : Gd A ad nsX)   (x1 : Int32) (x2 : Int32) (x3 : Int32) (x4 : Int32) (M : Mm) (post : Int32 → Mm → Prop) (h : w_X11_see x1 x2 x3 x4 M post) : CI l yX11_see wsX11_see (rmL 4) D (tysC cy) A ad nsX (ceX ad cy) (ExX A ad) [.ref (ad 0), .int x1, .int x2, .int x3, .int x4] M post := by
  refine Met_V (cc := cX11_see) (maxL := 5) (ret := (some .int)) (by decide) rfl G Lo_X ExX_ok (Nat.le_of_ble_eq_true rfl) rfl ?_
  intro p e s m args below meth c C hr hlk
  have C : Cx p s m args c cX11_see 5 RX11 wsX11_see D (tysC cy) A ad nsX (ceX ad cy) (ExX A ad) := C
  unfold w_X11_see at h
  refine V_aload_n C 0 dX11_see_0 rfl ?_
  refine V_get (k0 := 1) (Cn := RX11) (T := TX11) (N := 9) C (nsX_mem (by decide)) rfl iw_X11_see_X11 (by decide) rfl m_X11_see_f19 (ceX_0 _) rfl dX11_see_1 ?_
  refine V_iload_n C 1 dX11_see_4 rfl ?_
  refine V_iload_n C 2 dX11_see_5 rfl ?_
  refine V_iload_n C 3 dX11_see_6 rfl ?_
  refine V_callVi (q := (RX2, TX2, 18)) (rest := []) C (nsX_mem (by decide)) (ceX_3 _) rfl (c_X2_knows l D cy ad A G 3 (by decide) x1 x2 x3 M _ h) (cwV 3 C.1.2.2.2.2 gX11_see_X2_knows rfl rfl rfl (by decide +kernel) ⟨by decide, by decide⟩) rfl rfl (Nat.le_of_ble_eq_true rfl) dX11_see_7 (fun r1 M2 h => ?_)
  obtain ⟨z3, h⟩ := h
  refine V_if_ne C 16 dX11_see_10 (by decide) (fun q4 => ?_) (fun q4 => ?_)
  · have h := h.1 q4
    refine V_iload C 4 dX11_see_16 rfl ?_
    refine V_if_lt C 28 dX11_see_18 (by decide) (fun q5 => ?_) (fun q5 => ?_)
    · have h := h.1 q5
      refine V_bipush (v := (-102 : Int32)) C dX11_see_28 (by decide) ?_
      exact V_iret C hr hlk dX11_see_30 h
    · have h := h.2 q5
      refine V_iload C 4 dX11_see_21 rfl ?_
      refine V_bipush (v := (120 : Int32)) C dX11_see_23 (by decide) ?_
      refine V_icmp_le C 31 dX11_see_25 (by decide) (fun q6 => ?_) (fun q6 => ?_)
      · have h := h.1 q6
        refine V_aload_n C 0 dX11_see_31 rfl ?_
        refine V_get (k0 := 1) (Cn := RX11) (T := TX11) (N := 9) C (nsX_mem (by decide)) rfl iw_X11_see_X11 (by decide) rfl m_X11_see_f19 (ceX_0 _) rfl dX11_see_32 ?_
        refine V_get (k0 := 13) (Cn := RX2) (T := TX2) (N := 18) C (nsX_mem (by decide)) rfl iw_X11_see_X2 (by decide) rfl m_X11_see_f211 (ceX_3 _) rfl dX11_see_35 ?_
        refine V_bipush (v := (6 : Int32)) C dX11_see_38 (by decide) ?_
        refine V_icmp_lt C 46 dX11_see_40 (by decide) (fun q7 => ?_) (fun q7 => ?_)
        · have h := h.1 q7
          refine V_aload_n C 0 dX11_see_46 rfl ?_
          refine V_get (k0 := 1) (Cn := RX11) (T := TX11) (N := 9) C (nsX_mem (by decide)) rfl iw_X11_see_X11 (by decide) rfl m_X11_see_f19 (ceX_0 _) rfl dX11_see_47 ?_
          refine V_iload_n C 1 dX11_see_50 rfl ?_
          refine V_iload_n C 2 dX11_see_51 rfl ?_
          refine V_iload_n C 3 dX11_see_52 rfl ?_
          refine V_iload C 4 dX11_see_53 rfl ?_
          refine V_callVv (q := (RX2, TX2, 18)) (rest := []) C (nsX_mem (by decide)) (ceX_3 _) rfl (c_X2_note l D cy ad A G 3 (by decide) x1 x2 x3 x4 M2 _ h) (cwV 4 C.1.2.2.2.2 gX11_see_X2_note rfl rfl rfl (by decide +kernel) ⟨by decide, by decide⟩) rfl rfl (Nat.le_of_ble_eq_true rfl) dX11_see_55 (fun M9 h => ?_)
          refine V_aload_n C 0 dX11_see_58 rfl ?_
          refine V_get (k0 := 1) (Cn := RX11) (T := TX11) (N := 9) C (nsX_mem (by decide)) rfl iw_X11_see_X11 (by decide) rfl m_X11_see_f19 (ceX_0 _) rfl dX11_see_59 ?_
          refine V_get (k0 := 13) (Cn := RX2) (T := TX2) (N := 18) C (nsX_mem (by decide)) rfl iw_X11_see_X2 (by decide) rfl m_X11_see_f211 (ceX_3 _) rfl dX11_see_62 ?_
          exact V_iret C hr hlk dX11_see_65 h
        · have h := h.2 q7
          refine V_bipush (v := (-104 : Int32)) C dX11_see_43 (by decide) ?_
          exact V_iret C hr hlk dX11_see_45 h
      · have h := h.2 q6
        refine V_bipush (v := (-102 : Int32)) C dX11_see_28 (by decide) ?_
        exact V_iret C hr hlk dX11_see_30 h
  · have h := h.2 q4
    refine V_bipush (v := (-101 : Int32)) C dX11_see_13 (by decide) ?_
    exact V_iret C hr hlk dX11_see_15 h
def w_X11_forget  (M : Mm) (post : Int32 → Mm → Prop) : Prop :=
  ∀ M1 : Mm, M1 = wI M 3 (upd (M.1 3) 13 (0 : Int32)) → (post (M.1 3 13) M1)
theorem iw_X11_forget_X11 : ∀ w ∈ u_ws RX11 TX11 9, w ∈ wsX11_forget := by decide +kernel
theorem iw_X11_forget_X2 : ∀ w ∈ u_ws RX2 TX2 18, w ∈ wsX11_forget := by decide +kernel
theorem m_X11_forget_f19 : Cond.fieldLink RX11 19 "ShameYards" "now" "LShameYards$House;" ∈ wsX11_forget := by decide +kernel
theorem m_X11_forget_f211 : Cond.fieldLink RX11 211 "ShameYards$House" "seenCount" "I" ∈ wsX11_forget := by decide +kernel
set_option maxHeartbeats 4000000 in
set_option maxRecDepth 100000 in
theorem c_X11_forget (l : Launch) (D : va_G) (cy : Nat → ClassId) (ad : Nat → Nat) (A : Nat → Prop) (G : Gd A ad nsX)    (M : Mm) (post : Int32 → Mm → Prop) (h : w_X11_forget  M post) : CI l yX11_forget wsX11_forget (rmL 2) D (tysC cy) A ad nsX (ceX ad cy) (ExX A ad) [.ref (ad 0)] M post := by
  refine Met_V (cc := cX11_forget) (maxL := 2) (ret := (some .int)) (by decide) rfl G Lo_X ExX_ok (Nat.le_of_ble_eq_true rfl) rfl ?_
  intro p e s m args below meth c C hr hlk
  have C : Cx p s m args c cX11_forget 2 RX11 wsX11_forget D (tysC cy) A ad nsX (ceX ad cy) (ExX A ad) := C
  unfold w_X11_forget at h
  refine V_aload_n C 0 dX11_forget_0 rfl ?_
  refine V_get (k0 := 1) (Cn := RX11) (T := TX11) (N := 9) C (nsX_mem (by decide)) rfl iw_X11_forget_X11 (by decide) rfl m_X11_forget_f19 (ceX_0 _) rfl dX11_forget_1 ?_
  refine V_get (k0 := 13) (Cn := RX2) (T := TX2) (N := 18) C (nsX_mem (by decide)) rfl iw_X11_forget_X2 (by decide) rfl m_X11_forget_f211 (ceX_3 _) rfl dX11_forget_4 ?_
  refine V_istore_n (lv' := [(1, .int (M.1 3 13)), (0, .ref (ad 0))]) C dX11_forget_7 rfl (by decide) rfl ?_
  refine V_aload_n C 1 dX11_forget_8 rfl ?_
  refine V_get (k0 := 1) (Cn := RX11) (T := TX11) (N := 9) C (nsX_mem (by decide)) rfl iw_X11_forget_X11 (by decide) rfl m_X11_forget_f19 (ceX_0 _) rfl dX11_forget_9 ?_
  refine V_iconst (v := (0 : Int32)) C dX11_forget_12 (by decide) ?_
  refine V_putI (k0 := 13) (Cn := RX2) (T := TX2) (N := 18) C (nsX_mem (by decide)) rfl iw_X11_forget_X2 (by decide) rfl m_X11_forget_f211 tyX2_ok nmX2 rfl (show _ = some FieldType.int by decide +kernel) rfl rfl (Nat.le_of_ble_eq_true rfl) (ceX_3 _) (stX3_13  _ _) dX11_forget_13 (fun M1 e2 => ?_)
  have h := h M1 e2
  refine V_iload_n C 0 dX11_forget_16 rfl ?_
  exact V_iret C hr hlk dX11_forget_17 h
def w_X11_days (x1 : Int32) (x2 : Int32) (x3 : Int32) (M : Mm) (post : Int32 → Mm → Prop) : Prop :=
  ((x1 < (1 : Int32)) → (post (-102 : Int32) M)) ∧ ((¬ x1 < (1 : Int32)) → ((((60 : Int32) < x1) → (post (-102 : Int32) M)) ∧ ((¬ (60 : Int32) < x1) → (((x2 < 0) → (post (-102 : Int32) M)) ∧ ((¬ x2 < 0) → (((x3 < 0) → (post (-102 : Int32) M)) ∧ ((¬ x3 < 0) → (((x3 ≤ (2 : Int32)) → (w_X2_isThere 3 M (fun r6 M7 => ((¬ r6 = 0) → (w_X8_dream x1 x2 M7 (fun M11 => ((x3 = 0) → (post (M11.1 80 6) M11)) ∧ ((¬ x3 = 0) → (((x3 = 1) → (w_X8_dreamtInRoomZero  M11 (fun r15 M16 => post r15 M16))) ∧ ((¬ x3 = 1) → (post (M11.1 80 7) M11))))))) ∧ ((r6 = 0) → (post (-103 : Int32) M7))))) ∧ ((¬ x3 ≤ (2 : Int32)) → (post (-102 : Int32) M))))))))))
theorem iw_X11_days_X11 : ∀ w ∈ u_ws RX11 TX11 9, w ∈ wsX11_days := by decide +kernel
theorem iw_X11_days_X8 : ∀ w ∈ u_ws RX8 TX8 8, w ∈ wsX11_days := by decide +kernel
theorem m_X11_days_f19 : Cond.fieldLink RX11 19 "ShameYards" "now" "LShameYards$House;" ∈ wsX11_days := by decide +kernel
theorem m_X11_days_f43 : Cond.fieldLink RX11 43 "ShameYards" "wander" "LShameYards$Wander;" ∈ wsX11_days := by decide +kernel
theorem m_X11_days_f221 : Cond.fieldLink RX11 221 "ShameYards$Wander" "dreamtSteps" "I" ∈ wsX11_days := by decide +kernel
theorem m_X11_days_f227 : Cond.fieldLink RX11 227 "ShameYards$Wander" "seed" "I" ∈ wsX11_days := by decide +kernel
set_option maxHeartbeats 4000000 in
set_option maxRecDepth 100000 in
theorem c_X11_days (l : Launch) (D : va_G) (cy : Nat → ClassId) (ad : Nat → Nat) (A : Nat → Prop) (G : Gd A ad nsX)   (x1 : Int32) (x2 : Int32) (x3 : Int32) (M : Mm) (post : Int32 → Mm → Prop) (h : w_X11_days x1 x2 x3 M post) : CI l yX11_days wsX11_days (rmL 8) D (tysC cy) A ad nsX (ceX ad cy) (ExX A ad) [.ref (ad 0), .int x1, .int x2, .int x3] M post := by
  refine Met_V (cc := cX11_days) (maxL := 4) (ret := (some .int)) (by decide) rfl G Lo_X ExX_ok (Nat.le_of_ble_eq_true rfl) rfl ?_
  intro p e s m args below meth c C hr hlk
  have C : Cx p s m args c cX11_days 4 RX11 wsX11_days D (tysC cy) A ad nsX (ceX ad cy) (ExX A ad) := C
  unfold w_X11_days at h
  refine V_iload_n C 1 dX11_days_0 rfl ?_
  refine V_iconst (v := (1 : Int32)) C dX11_days_1 (by decide) ?_
  refine V_icmp_lt C 24 dX11_days_2 (by decide) (fun q1 => ?_) (fun q1 => ?_)
  · have h := h.1 q1
    refine V_bipush (v := (-102 : Int32)) C dX11_days_24 (by decide) ?_
    exact V_iret C hr hlk dX11_days_26 h
  · have h := h.2 q1
    refine V_iload_n C 1 dX11_days_5 rfl ?_
    refine V_bipush (v := (60 : Int32)) C dX11_days_6 (by decide) ?_
    refine V_icmp_gt C 24 dX11_days_8 (by decide) (fun q2 => ?_) (fun q2 => ?_)
    · have h := h.1 q2
      refine V_bipush (v := (-102 : Int32)) C dX11_days_24 (by decide) ?_
      exact V_iret C hr hlk dX11_days_26 h
    · have h := h.2 q2
      refine V_iload_n C 2 dX11_days_11 rfl ?_
      refine V_if_lt C 24 dX11_days_12 (by decide) (fun q3 => ?_) (fun q3 => ?_)
      · have h := h.1 q3
        refine V_bipush (v := (-102 : Int32)) C dX11_days_24 (by decide) ?_
        exact V_iret C hr hlk dX11_days_26 h
      · have h := h.2 q3
        refine V_iload_n C 3 dX11_days_15 rfl ?_
        refine V_if_lt C 24 dX11_days_16 (by decide) (fun q4 => ?_) (fun q4 => ?_)
        · have h := h.1 q4
          refine V_bipush (v := (-102 : Int32)) C dX11_days_24 (by decide) ?_
          exact V_iret C hr hlk dX11_days_26 h
        · have h := h.2 q4
          refine V_iload_n C 3 dX11_days_19 rfl ?_
          refine V_iconst (v := (2 : Int32)) C dX11_days_20 (by decide) ?_
          refine V_icmp_le C 27 dX11_days_21 (by decide) (fun q5 => ?_) (fun q5 => ?_)
          · have h := h.1 q5
            refine V_aload_n C 0 dX11_days_27 rfl ?_
            refine V_get (k0 := 1) (Cn := RX11) (T := TX11) (N := 9) C (nsX_mem (by decide)) rfl iw_X11_days_X11 (by decide) rfl m_X11_days_f19 (ceX_0 _) rfl dX11_days_28 ?_
            refine V_callVi (q := (RX2, TX2, 18)) (rest := []) C (nsX_mem (by decide)) (ceX_3 _) rfl (c_X2_isThere l D cy ad A G 3 (by decide) M _ h) (cwV 0 C.1.2.2.2.2 gX11_days_X2_isThere rfl rfl rfl (by decide +kernel) ⟨by decide, by decide⟩) rfl rfl (Nat.le_of_ble_eq_true rfl) dX11_days_31 (fun r6 M7 h => ?_)
            obtain ⟨z8, h⟩ := h
            refine V_if_ne C 40 dX11_days_34 (by decide) (fun q9 => ?_) (fun q9 => ?_)
            · have h := h.1 q9
              refine V_aload_n C 0 dX11_days_40 rfl ?_
              refine V_get (k0 := 5) (Cn := RX11) (T := TX11) (N := 9) C (nsX_mem (by decide)) rfl iw_X11_days_X11 (by decide) rfl m_X11_days_f43 (ceX_0 _) rfl dX11_days_41 ?_
              refine V_aload_n C 0 dX11_days_44 rfl ?_
              refine V_get (k0 := 1) (Cn := RX11) (T := TX11) (N := 9) C (nsX_mem (by decide)) rfl iw_X11_days_X11 (by decide) rfl m_X11_days_f19 (ceX_0 _) rfl dX11_days_45 ?_
              refine V_iload_n C 1 dX11_days_48 rfl ?_
              refine V_iload_n C 2 dX11_days_49 rfl ?_
              refine V_callVv (q := (RX8, TX8, 8)) (rest := []) C (nsX_mem (by decide)) (ceX_80 _) rfl (c_X8_dream l D cy ad A G x1 x2 M7 _ h) (cwV 3 C.1.2.2.2.2 gX11_days_X8_dream rfl rfl rfl (by decide +kernel) ⟨by decide, by decide⟩) rfl rfl (Nat.le_of_ble_eq_true rfl) dX11_days_50 (fun M11 h => ?_)
              refine V_iload_n C 3 dX11_days_53 rfl ?_
              by_cases q13 : x3 = 0
              · have h := h.1 q13
                refine V_lsw (off := 26) C 80 dX11_days_54 (by decide) (by rw [q13]; first | done | rfl) (by decide) ?_
                refine V_aload_n C 0 dX11_days_80 rfl ?_
                refine V_get (k0 := 5) (Cn := RX11) (T := TX11) (N := 9) C (nsX_mem (by decide)) rfl iw_X11_days_X11 (by decide) rfl m_X11_days_f43 (ceX_0 _) rfl dX11_days_81 ?_
                refine V_get (k0 := 6) (Cn := RX8) (T := TX8) (N := 8) C (nsX_mem (by decide)) rfl iw_X11_days_X8 (by decide) rfl m_X11_days_f221 (ceX_80 _) rfl dX11_days_84 ?_
                exact V_iret C hr hlk dX11_days_87 h
              · have h := h.2 q13
                by_cases q14 : x3 = 1
                · have h := h.1 q14
                  refine V_lsw (off := 34) C 88 dX11_days_54 (by decide) (by rw [q14]; first | done | rfl) (by decide) ?_
                  refine V_aload_n C 0 dX11_days_88 rfl ?_
                  refine V_get (k0 := 5) (Cn := RX11) (T := TX11) (N := 9) C (nsX_mem (by decide)) rfl iw_X11_days_X11 (by decide) rfl m_X11_days_f43 (ceX_0 _) rfl dX11_days_89 ?_
                  refine V_callVi (q := (RX8, TX8, 8)) (rest := []) C (nsX_mem (by decide)) (ceX_80 _) rfl (c_X8_dreamtInRoomZero l D cy ad A G  M11 _ h) (cwV 0 C.1.2.2.2.2 gX11_days_X8_dreamtInRoomZero rfl rfl rfl (by decide +kernel) ⟨by decide, by decide⟩) rfl rfl (Nat.le_of_ble_eq_true rfl) dX11_days_92 (fun r15 M16 h => ?_)
                  exact V_iret C hr hlk dX11_days_95 h
                · have h := h.2 q14
                  refine V_lsw (off := 42) C 96 dX11_days_54 (by decide) (by show Op.lookupswitch.offset [((0 : Int), (26 : Int)), ((1 : Int), (34 : Int))] 42 _ = _; rw [lv_osw q13 (show (0 : Int32).toInt = 0 by decide), lv_osw q14 (show (1 : Int32).toInt = 1 by decide)]; first | done | rfl) (by decide) ?_
                  refine V_aload_n C 0 dX11_days_96 rfl ?_
                  refine V_get (k0 := 5) (Cn := RX11) (T := TX11) (N := 9) C (nsX_mem (by decide)) rfl iw_X11_days_X11 (by decide) rfl m_X11_days_f43 (ceX_0 _) rfl dX11_days_97 ?_
                  refine V_get (k0 := 7) (Cn := RX8) (T := TX8) (N := 8) C (nsX_mem (by decide)) rfl iw_X11_days_X8 (by decide) rfl m_X11_days_f227 (ceX_80 _) rfl dX11_days_100 ?_
                  exact V_iret C hr hlk dX11_days_103 h
            · have h := h.2 q9
              refine V_bipush (v := (-103 : Int32)) C dX11_days_37 (by decide) ?_
              exact V_iret C hr hlk dX11_days_39 h
          · have h := h.2 q5
            refine V_bipush (v := (-102 : Int32)) C dX11_days_24 (by decide) ?_
            exact V_iret C hr hlk dX11_days_26 h
def w_X11_image  (M : Mm) (post : Int32 → Mm → Prop) : Prop :=
  w_X2_isThere 3 M (fun r1 M2 => ((¬ r1 = 0) → (w_X2_copyFrom 22 3 M2 (fun M6 => ∀ M8 : Mm, M8 = wI M6 0 (upd (M6.1 0) 6 (1 : Int32)) → (w_X2_sumOfPeople 3 17 M8 (fun r10 M11 => post r10 M11))))) ∧ ((r1 = 0) → (post (-103 : Int32) M2)))
theorem iw_X11_image_X11 : ∀ w ∈ u_ws RX11 TX11 9, w ∈ wsX11_image := by decide +kernel
theorem iw_X11_image_X2 : ∀ w ∈ u_ws RX2 TX2 18, w ∈ wsX11_image := by decide +kernel
theorem m_X11_image_f19 : Cond.fieldLink RX11 19 "ShameYards" "now" "LShameYards$House;" ∈ wsX11_image := by decide +kernel
theorem m_X11_image_f23 : Cond.fieldLink RX11 23 "ShameYards" "kept" "LShameYards$House;" ∈ wsX11_image := by decide +kernel
theorem m_X11_image_f67 : Cond.fieldLink RX11 67 "ShameYards" "imageStands" "Z" ∈ wsX11_image := by decide +kernel
theorem m_X11_image_f98 : Cond.fieldLink RX11 98 "ShameYards$House" "taken" "[I" ∈ wsX11_image := by decide +kernel
set_option maxHeartbeats 4000000 in
set_option maxRecDepth 100000 in
theorem c_X11_image (l : Launch) (D : va_G) (cy : Nat → ClassId) (ad : Nat → Nat) (A : Nat → Prop) (G : Gd A ad nsX)    (M : Mm) (post : Int32 → Mm → Prop) (h : w_X11_image  M post) : CI l yX11_image wsX11_image (rmL 3) D (tysC cy) A ad nsX (ceX ad cy) (ExX A ad) [.ref (ad 0)] M post := by
  refine Met_V (cc := cX11_image) (maxL := 1) (ret := (some .int)) (by decide) rfl G Lo_X ExX_ok (Nat.le_of_ble_eq_true rfl) rfl ?_
  intro p e s m args below meth c C hr hlk
  have C : Cx p s m args c cX11_image 1 RX11 wsX11_image D (tysC cy) A ad nsX (ceX ad cy) (ExX A ad) := C
  unfold w_X11_image at h
  refine V_aload_n C 0 dX11_image_0 rfl ?_
  refine V_get (k0 := 1) (Cn := RX11) (T := TX11) (N := 9) C (nsX_mem (by decide)) rfl iw_X11_image_X11 (by decide) rfl m_X11_image_f19 (ceX_0 _) rfl dX11_image_1 ?_
  refine V_callVi (q := (RX2, TX2, 18)) (rest := []) C (nsX_mem (by decide)) (ceX_3 _) rfl (c_X2_isThere l D cy ad A G 3 (by decide) M _ h) (cwV 0 C.1.2.2.2.2 gX11_image_X2_isThere rfl rfl rfl (by decide +kernel) ⟨by decide, by decide⟩) rfl rfl (Nat.le_of_ble_eq_true rfl) dX11_image_4 (fun r1 M2 h => ?_)
  obtain ⟨z3, h⟩ := h
  refine V_if_ne C 13 dX11_image_7 (by decide) (fun q4 => ?_) (fun q4 => ?_)
  · have h := h.1 q4
    refine V_aload_n C 0 dX11_image_13 rfl ?_
    refine V_get (k0 := 2) (Cn := RX11) (T := TX11) (N := 9) C (nsX_mem (by decide)) rfl iw_X11_image_X11 (by decide) rfl m_X11_image_f23 (ceX_0 _) rfl dX11_image_14 ?_
    refine V_aload_n C 0 dX11_image_17 rfl ?_
    refine V_get (k0 := 1) (Cn := RX11) (T := TX11) (N := 9) C (nsX_mem (by decide)) rfl iw_X11_image_X11 (by decide) rfl m_X11_image_f19 (ceX_0 _) rfl dX11_image_18 ?_
    refine V_callVv (q := (RX2, TX2, 18)) (rest := []) C (nsX_mem (by decide)) (ceX_22 _) rfl (c_X2_copyFrom l D cy ad A G 22 3 (by decide) (by decide) M2 _ h) (cwV 1 C.1.2.2.2.2 gX11_image_X2_copyFrom rfl rfl rfl (by decide +kernel) ⟨by decide, by decide⟩) rfl rfl (Nat.le_of_ble_eq_true rfl) dX11_image_21 (fun M6 h => ?_)
    refine V_aload_n C 0 dX11_image_24 rfl ?_
    refine V_iconst (v := (1 : Int32)) C dX11_image_25 (by decide) ?_
    refine V_putI (k0 := 6) (Cn := RX11) (T := TX11) (N := 9) C (nsX_mem (by decide)) rfl iw_X11_image_X11 (by decide) rfl m_X11_image_f67 tyX11_ok nmX11 rfl (show _ = some FieldType.boolean by decide +kernel) (nz_n (Or.inr rfl)) (nz_f (Or.inr rfl)) (Nat.le_of_ble_eq_true rfl) (ceX_0 _) (stX0_6  _ _) dX11_image_26 (fun M8 e9 => ?_)
    have h := h M8 e9
    refine V_aload_n C 0 dX11_image_29 rfl ?_
    refine V_get (k0 := 1) (Cn := RX11) (T := TX11) (N := 9) C (nsX_mem (by decide)) rfl iw_X11_image_X11 (by decide) rfl m_X11_image_f19 (ceX_0 _) rfl dX11_image_30 ?_
    refine V_aload_n C 0 dX11_image_33 rfl ?_
    refine V_get (k0 := 1) (Cn := RX11) (T := TX11) (N := 9) C (nsX_mem (by decide)) rfl iw_X11_image_X11 (by decide) rfl m_X11_image_f19 (ceX_0 _) rfl dX11_image_34 ?_
    refine V_get (k0 := 11) (Cn := RX2) (T := TX2) (N := 18) C (nsX_mem (by decide)) rfl iw_X11_image_X2 (by decide) rfl m_X11_image_f98 (ceX_3 _) rfl dX11_image_37 ?_
    refine V_callVi (q := (RX2, TX2, 18)) (rest := []) C (nsX_mem (by decide)) (ceX_3 _) rfl (c_X2_sumOfPeople l D cy ad A G 3 17 (by decide) (nsX_mem (by decide)) (fun _ => rfl) M8 _ h) (cwV 1 C.1.2.2.2.2 gX11_image_X2_sumOfPeople rfl rfl rfl (by decide +kernel) ⟨by decide, by decide⟩) rfl rfl (Nat.le_of_ble_eq_true rfl) dX11_image_40 (fun r10 M11 h => ?_)
    exact V_iret C hr hlk dX11_image_43 h
  · have h := h.2 q4
    refine V_bipush (v := (-103 : Int32)) C dX11_image_10 (by decide) ?_
    exact V_iret C hr hlk dX11_image_12 h
def w_X11_restore  (M : Mm) (post : Int32 → Mm → Prop) : Prop :=
  ((¬ (M.1 0 6) = 0) → (w_X2_copyFrom 3 22 M (fun M3 => w_X2_sumOfPeople 3 17 M3 (fun r5 M6 => post r5 M6)))) ∧ (((M.1 0 6) = 0) → (post (-103 : Int32) M))
theorem iw_X11_restore_X11 : ∀ w ∈ u_ws RX11 TX11 9, w ∈ wsX11_restore := by decide +kernel
theorem iw_X11_restore_X2 : ∀ w ∈ u_ws RX2 TX2 18, w ∈ wsX11_restore := by decide +kernel
theorem m_X11_restore_f67 : Cond.fieldLink RX11 67 "ShameYards" "imageStands" "Z" ∈ wsX11_restore := by decide +kernel
theorem m_X11_restore_f19 : Cond.fieldLink RX11 19 "ShameYards" "now" "LShameYards$House;" ∈ wsX11_restore := by decide +kernel
theorem m_X11_restore_f23 : Cond.fieldLink RX11 23 "ShameYards" "kept" "LShameYards$House;" ∈ wsX11_restore := by decide +kernel
theorem m_X11_restore_f98 : Cond.fieldLink RX11 98 "ShameYards$House" "taken" "[I" ∈ wsX11_restore := by decide +kernel
set_option maxHeartbeats 4000000 in
set_option maxRecDepth 100000 in
theorem c_X11_restore (l : Launch) (D : va_G) (cy : Nat → ClassId) (ad : Nat → Nat) (A : Nat → Prop) (G : Gd A ad nsX)    (M : Mm) (post : Int32 → Mm → Prop) (h : w_X11_restore  M post) : CI l yX11_restore wsX11_restore (rmL 3) D (tysC cy) A ad nsX (ceX ad cy) (ExX A ad) [.ref (ad 0)] M post := by
  refine Met_V (cc := cX11_restore) (maxL := 1) (ret := (some .int)) (by decide) rfl G Lo_X ExX_ok (Nat.le_of_ble_eq_true rfl) rfl ?_
  intro p e s m args below meth c C hr hlk
  have C : Cx p s m args c cX11_restore 1 RX11 wsX11_restore D (tysC cy) A ad nsX (ceX ad cy) (ExX A ad) := C
  unfold w_X11_restore at h
  refine V_aload_n C 0 dX11_restore_0 rfl ?_
  refine V_get (k0 := 6) (Cn := RX11) (T := TX11) (N := 9) C (nsX_mem (by decide)) rfl iw_X11_restore_X11 (by decide) rfl m_X11_restore_f67 (ceX_0 _) rfl dX11_restore_1 ?_
  refine V_if_ne C 10 dX11_restore_4 (by decide) (fun q1 => ?_) (fun q1 => ?_)
  · have h := h.1 q1
    refine V_aload_n C 0 dX11_restore_10 rfl ?_
    refine V_get (k0 := 1) (Cn := RX11) (T := TX11) (N := 9) C (nsX_mem (by decide)) rfl iw_X11_restore_X11 (by decide) rfl m_X11_restore_f19 (ceX_0 _) rfl dX11_restore_11 ?_
    refine V_aload_n C 0 dX11_restore_14 rfl ?_
    refine V_get (k0 := 2) (Cn := RX11) (T := TX11) (N := 9) C (nsX_mem (by decide)) rfl iw_X11_restore_X11 (by decide) rfl m_X11_restore_f23 (ceX_0 _) rfl dX11_restore_15 ?_
    refine V_callVv (q := (RX2, TX2, 18)) (rest := []) C (nsX_mem (by decide)) (ceX_3 _) rfl (c_X2_copyFrom l D cy ad A G 3 22 (by decide) (by decide) M _ h) (cwV 1 C.1.2.2.2.2 gX11_restore_X2_copyFrom rfl rfl rfl (by decide +kernel) ⟨by decide, by decide⟩) rfl rfl (Nat.le_of_ble_eq_true rfl) dX11_restore_18 (fun M3 h => ?_)
    refine V_aload_n C 0 dX11_restore_21 rfl ?_
    refine V_get (k0 := 1) (Cn := RX11) (T := TX11) (N := 9) C (nsX_mem (by decide)) rfl iw_X11_restore_X11 (by decide) rfl m_X11_restore_f19 (ceX_0 _) rfl dX11_restore_22 ?_
    refine V_aload_n C 0 dX11_restore_25 rfl ?_
    refine V_get (k0 := 1) (Cn := RX11) (T := TX11) (N := 9) C (nsX_mem (by decide)) rfl iw_X11_restore_X11 (by decide) rfl m_X11_restore_f19 (ceX_0 _) rfl dX11_restore_26 ?_
    refine V_get (k0 := 11) (Cn := RX2) (T := TX2) (N := 18) C (nsX_mem (by decide)) rfl iw_X11_restore_X2 (by decide) rfl m_X11_restore_f98 (ceX_3 _) rfl dX11_restore_29 ?_
    refine V_callVi (q := (RX2, TX2, 18)) (rest := []) C (nsX_mem (by decide)) (ceX_3 _) rfl (c_X2_sumOfPeople l D cy ad A G 3 17 (by decide) (nsX_mem (by decide)) (fun _ => rfl) M3 _ h) (cwV 1 C.1.2.2.2.2 gX11_restore_X2_sumOfPeople rfl rfl rfl (by decide +kernel) ⟨by decide, by decide⟩) rfl rfl (Nat.le_of_ble_eq_true rfl) dX11_restore_32 (fun r5 M6 h => ?_)
    exact V_iret C hr hlk dX11_restore_35 h
  · have h := h.2 q1
    refine V_bipush (v := (-103 : Int32)) C dX11_restore_7 (by decide) ?_
    exact V_iret C hr hlk dX11_restore_9 h
def w_X11_count (x1 : Int32) (M : Mm) (post : Int32 → Mm → Prop) : Prop :=
  ((x1 = 0) → (post (M.1 3 1) M)) ∧ ((¬ x1 = 0) → (((x1 = 1) → (post (M.1 3 2) M)) ∧ ((¬ x1 = 1) → (((x1 = 2) → (post (M.1 3 3) M)) ∧ ((¬ x1 = 2) → (((x1 = 3) → (w_X2_sumOfPeople 3 14 M (fun r5 M6 => post r5 M6))) ∧ ((¬ x1 = 3) → (((x1 = 4) → (w_X2_sumOfPeople 3 15 M (fun r9 M10 => post r9 M10))) ∧ ((¬ x1 = 4) → (((x1 = 5) → (w_X2_sumOfPeople 3 17 M (fun r13 M14 => post r13 M14))) ∧ ((¬ x1 = 5) → (((x1 = 6) → (post (M.1 3 12) M)) ∧ ((¬ x1 = 6) → (((x1 = 7) → (w_X2_peopleInRoomZero 3 M (fun r18 M19 => post r18 M19))) ∧ ((¬ x1 = 7) → (((x1 = 8) → (post (M.1 3 13) M)) ∧ ((¬ x1 = 8) → (((x1 = 9) → (post (M.1 1 1) M)) ∧ ((¬ x1 = 9) → (((x1 = 10) → (post (M.1 0 7) M)) ∧ ((¬ x1 = 10) → (((x1 = 11) → (post (M.1 0 8) M)) ∧ ((¬ x1 = 11) → (post (-102 : Int32) M))))))))))))))))))))))))
theorem iw_X11_count_X11 : ∀ w ∈ u_ws RX11 TX11 9, w ∈ wsX11_count := by decide +kernel
theorem iw_X11_count_X2 : ∀ w ∈ u_ws RX2 TX2 18, w ∈ wsX11_count := by decide +kernel
theorem iw_X11_count_X5 : ∀ w ∈ u_ws RX5 TX5 2, w ∈ wsX11_count := by decide +kernel
theorem m_X11_count_f19 : Cond.fieldLink RX11 19 "ShameYards" "now" "LShameYards$House;" ∈ wsX11_count := by decide +kernel
theorem m_X11_count_f237 : Cond.fieldLink RX11 237 "ShameYards$House" "roomCount" "I" ∈ wsX11_count := by decide +kernel
theorem m_X11_count_f240 : Cond.fieldLink RX11 240 "ShameYards$House" "passageCount" "I" ∈ wsX11_count := by decide +kernel
theorem m_X11_count_f74 : Cond.fieldLink RX11 74 "ShameYards$House" "peopleCount" "I" ∈ wsX11_count := by decide +kernel
theorem m_X11_count_f89 : Cond.fieldLink RX11 89 "ShameYards$House" "deeds" "[I" ∈ wsX11_count := by decide +kernel
theorem m_X11_count_f92 : Cond.fieldLink RX11 92 "ShameYards$House" "lies" "[I" ∈ wsX11_count := by decide +kernel
theorem m_X11_count_f98 : Cond.fieldLink RX11 98 "ShameYards$House" "taken" "[I" ∈ wsX11_count := by decide +kernel
theorem m_X11_count_f243 : Cond.fieldLink RX11 243 "ShameYards$House" "walksTogether" "I" ∈ wsX11_count := by decide +kernel
theorem m_X11_count_f211 : Cond.fieldLink RX11 211 "ShameYards$House" "seenCount" "I" ∈ wsX11_count := by decide +kernel
theorem m_X11_count_f10 : Cond.fieldLink RX11 10 "ShameYards" "page" "LShameYards$Page;" ∈ wsX11_count := by decide +kernel
theorem m_X11_count_f47 : Cond.fieldLink RX11 47 "ShameYards$Page" "size" "I" ∈ wsX11_count := by decide +kernel
theorem m_X11_count_f71 : Cond.fieldLink RX11 71 "ShameYards" "reads" "I" ∈ wsX11_count := by decide +kernel
theorem m_X11_count_f173 : Cond.fieldLink RX11 173 "ShameYards" "sends" "I" ∈ wsX11_count := by decide +kernel
set_option maxHeartbeats 4000000 in
set_option maxRecDepth 100000 in
theorem c_X11_count (l : Launch) (D : va_G) (cy : Nat → ClassId) (ad : Nat → Nat) (A : Nat → Prop) (G : Gd A ad nsX)   (x1 : Int32) (M : Mm) (post : Int32 → Mm → Prop) (h : w_X11_count x1 M post) : CI l yX11_count wsX11_count (rmL 3) D (tysC cy) A ad nsX (ceX ad cy) (ExX A ad) [.ref (ad 0), .int x1] M post := by
  refine Met_V (cc := cX11_count) (maxL := 2) (ret := (some .int)) (by decide) rfl G Lo_X ExX_ok (Nat.le_of_ble_eq_true rfl) rfl ?_
  intro p e s m args below meth c C hr hlk
  have C : Cx p s m args c cX11_count 2 RX11 wsX11_count D (tysC cy) A ad nsX (ceX ad cy) (ExX A ad) := C
  unfold w_X11_count at h
  refine V_iload_n C 1 dX11_count_0 rfl ?_
  by_cases q1 : x1 = 0
  · have h := h.1 q1
    refine V_tswIn C 64 dX11_count_1 (by rw [q1]; decide) (by rw [q1]; decide) (by rw [q1]; rfl) (by decide) ?_
    refine V_aload_n C 0 dX11_count_64 rfl ?_
    refine V_get (k0 := 1) (Cn := RX11) (T := TX11) (N := 9) C (nsX_mem (by decide)) rfl iw_X11_count_X11 (by decide) rfl m_X11_count_f19 (ceX_0 _) rfl dX11_count_65 ?_
    refine V_get (k0 := 1) (Cn := RX2) (T := TX2) (N := 18) C (nsX_mem (by decide)) rfl iw_X11_count_X2 (by decide) rfl m_X11_count_f237 (ceX_3 _) rfl dX11_count_68 ?_
    exact V_iret C hr hlk dX11_count_71 h
  · have h := h.2 q1
    by_cases q2 : x1 = 1
    · have h := h.1 q2
      refine V_tswIn C 72 dX11_count_1 (by rw [q2]; decide) (by rw [q2]; decide) (by rw [q2]; rfl) (by decide) ?_
      refine V_aload_n C 0 dX11_count_72 rfl ?_
      refine V_get (k0 := 1) (Cn := RX11) (T := TX11) (N := 9) C (nsX_mem (by decide)) rfl iw_X11_count_X11 (by decide) rfl m_X11_count_f19 (ceX_0 _) rfl dX11_count_73 ?_
      refine V_get (k0 := 2) (Cn := RX2) (T := TX2) (N := 18) C (nsX_mem (by decide)) rfl iw_X11_count_X2 (by decide) rfl m_X11_count_f240 (ceX_3 _) rfl dX11_count_76 ?_
      exact V_iret C hr hlk dX11_count_79 h
    · have h := h.2 q2
      by_cases q3 : x1 = 2
      · have h := h.1 q3
        refine V_tswIn C 80 dX11_count_1 (by rw [q3]; decide) (by rw [q3]; decide) (by rw [q3]; rfl) (by decide) ?_
        refine V_aload_n C 0 dX11_count_80 rfl ?_
        refine V_get (k0 := 1) (Cn := RX11) (T := TX11) (N := 9) C (nsX_mem (by decide)) rfl iw_X11_count_X11 (by decide) rfl m_X11_count_f19 (ceX_0 _) rfl dX11_count_81 ?_
        refine V_get (k0 := 3) (Cn := RX2) (T := TX2) (N := 18) C (nsX_mem (by decide)) rfl iw_X11_count_X2 (by decide) rfl m_X11_count_f74 (ceX_3 _) rfl dX11_count_84 ?_
        exact V_iret C hr hlk dX11_count_87 h
      · have h := h.2 q3
        by_cases q4 : x1 = 3
        · have h := h.1 q4
          refine V_tswIn C 88 dX11_count_1 (by rw [q4]; decide) (by rw [q4]; decide) (by rw [q4]; rfl) (by decide) ?_
          refine V_aload_n C 0 dX11_count_88 rfl ?_
          refine V_get (k0 := 1) (Cn := RX11) (T := TX11) (N := 9) C (nsX_mem (by decide)) rfl iw_X11_count_X11 (by decide) rfl m_X11_count_f19 (ceX_0 _) rfl dX11_count_89 ?_
          refine V_aload_n C 0 dX11_count_92 rfl ?_
          refine V_get (k0 := 1) (Cn := RX11) (T := TX11) (N := 9) C (nsX_mem (by decide)) rfl iw_X11_count_X11 (by decide) rfl m_X11_count_f19 (ceX_0 _) rfl dX11_count_93 ?_
          refine V_get (k0 := 8) (Cn := RX2) (T := TX2) (N := 18) C (nsX_mem (by decide)) rfl iw_X11_count_X2 (by decide) rfl m_X11_count_f89 (ceX_3 _) rfl dX11_count_96 ?_
          refine V_callVi (q := (RX2, TX2, 18)) (rest := []) C (nsX_mem (by decide)) (ceX_3 _) rfl (c_X2_sumOfPeople l D cy ad A G 3 14 (by decide) (nsX_mem (by decide)) (fun _ => rfl) M _ h) (cwV 1 C.1.2.2.2.2 gX11_count_X2_sumOfPeople rfl rfl rfl (by decide +kernel) ⟨by decide, by decide⟩) rfl rfl (Nat.le_of_ble_eq_true rfl) dX11_count_99 (fun r5 M6 h => ?_)
          exact V_iret C hr hlk dX11_count_102 h
        · have h := h.2 q4
          by_cases q8 : x1 = 4
          · have h := h.1 q8
            refine V_tswIn C 103 dX11_count_1 (by rw [q8]; decide) (by rw [q8]; decide) (by rw [q8]; rfl) (by decide) ?_
            refine V_aload_n C 0 dX11_count_103 rfl ?_
            refine V_get (k0 := 1) (Cn := RX11) (T := TX11) (N := 9) C (nsX_mem (by decide)) rfl iw_X11_count_X11 (by decide) rfl m_X11_count_f19 (ceX_0 _) rfl dX11_count_104 ?_
            refine V_aload_n C 0 dX11_count_107 rfl ?_
            refine V_get (k0 := 1) (Cn := RX11) (T := TX11) (N := 9) C (nsX_mem (by decide)) rfl iw_X11_count_X11 (by decide) rfl m_X11_count_f19 (ceX_0 _) rfl dX11_count_108 ?_
            refine V_get (k0 := 9) (Cn := RX2) (T := TX2) (N := 18) C (nsX_mem (by decide)) rfl iw_X11_count_X2 (by decide) rfl m_X11_count_f92 (ceX_3 _) rfl dX11_count_111 ?_
            refine V_callVi (q := (RX2, TX2, 18)) (rest := []) C (nsX_mem (by decide)) (ceX_3 _) rfl (c_X2_sumOfPeople l D cy ad A G 3 15 (by decide) (nsX_mem (by decide)) (fun _ => rfl) M _ h) (cwV 1 C.1.2.2.2.2 gX11_count_X2_sumOfPeople rfl rfl rfl (by decide +kernel) ⟨by decide, by decide⟩) rfl rfl (Nat.le_of_ble_eq_true rfl) dX11_count_114 (fun r9 M10 h => ?_)
            exact V_iret C hr hlk dX11_count_117 h
          · have h := h.2 q8
            by_cases q12 : x1 = 5
            · have h := h.1 q12
              refine V_tswIn C 118 dX11_count_1 (by rw [q12]; decide) (by rw [q12]; decide) (by rw [q12]; rfl) (by decide) ?_
              refine V_aload_n C 0 dX11_count_118 rfl ?_
              refine V_get (k0 := 1) (Cn := RX11) (T := TX11) (N := 9) C (nsX_mem (by decide)) rfl iw_X11_count_X11 (by decide) rfl m_X11_count_f19 (ceX_0 _) rfl dX11_count_119 ?_
              refine V_aload_n C 0 dX11_count_122 rfl ?_
              refine V_get (k0 := 1) (Cn := RX11) (T := TX11) (N := 9) C (nsX_mem (by decide)) rfl iw_X11_count_X11 (by decide) rfl m_X11_count_f19 (ceX_0 _) rfl dX11_count_123 ?_
              refine V_get (k0 := 11) (Cn := RX2) (T := TX2) (N := 18) C (nsX_mem (by decide)) rfl iw_X11_count_X2 (by decide) rfl m_X11_count_f98 (ceX_3 _) rfl dX11_count_126 ?_
              refine V_callVi (q := (RX2, TX2, 18)) (rest := []) C (nsX_mem (by decide)) (ceX_3 _) rfl (c_X2_sumOfPeople l D cy ad A G 3 17 (by decide) (nsX_mem (by decide)) (fun _ => rfl) M _ h) (cwV 1 C.1.2.2.2.2 gX11_count_X2_sumOfPeople rfl rfl rfl (by decide +kernel) ⟨by decide, by decide⟩) rfl rfl (Nat.le_of_ble_eq_true rfl) dX11_count_129 (fun r13 M14 h => ?_)
              exact V_iret C hr hlk dX11_count_132 h
            · have h := h.2 q12
              by_cases q16 : x1 = 6
              · have h := h.1 q16
                refine V_tswIn C 133 dX11_count_1 (by rw [q16]; decide) (by rw [q16]; decide) (by rw [q16]; rfl) (by decide) ?_
                refine V_aload_n C 0 dX11_count_133 rfl ?_
                refine V_get (k0 := 1) (Cn := RX11) (T := TX11) (N := 9) C (nsX_mem (by decide)) rfl iw_X11_count_X11 (by decide) rfl m_X11_count_f19 (ceX_0 _) rfl dX11_count_134 ?_
                refine V_get (k0 := 12) (Cn := RX2) (T := TX2) (N := 18) C (nsX_mem (by decide)) rfl iw_X11_count_X2 (by decide) rfl m_X11_count_f243 (ceX_3 _) rfl dX11_count_137 ?_
                exact V_iret C hr hlk dX11_count_140 h
              · have h := h.2 q16
                by_cases q17 : x1 = 7
                · have h := h.1 q17
                  refine V_tswIn C 141 dX11_count_1 (by rw [q17]; decide) (by rw [q17]; decide) (by rw [q17]; rfl) (by decide) ?_
                  refine V_aload_n C 0 dX11_count_141 rfl ?_
                  refine V_get (k0 := 1) (Cn := RX11) (T := TX11) (N := 9) C (nsX_mem (by decide)) rfl iw_X11_count_X11 (by decide) rfl m_X11_count_f19 (ceX_0 _) rfl dX11_count_142 ?_
                  refine V_callVi (q := (RX2, TX2, 18)) (rest := []) C (nsX_mem (by decide)) (ceX_3 _) rfl (c_X2_peopleInRoomZero l D cy ad A G 3 (by decide) M _ h) (cwV 0 C.1.2.2.2.2 gX11_count_X2_peopleInRoomZero rfl rfl rfl (by decide +kernel) ⟨by decide, by decide⟩) rfl rfl (Nat.le_of_ble_eq_true rfl) dX11_count_145 (fun r18 M19 h => ?_)
                  exact V_iret C hr hlk dX11_count_148 h
                · have h := h.2 q17
                  by_cases q21 : x1 = 8
                  · have h := h.1 q21
                    refine V_tswIn C 149 dX11_count_1 (by rw [q21]; decide) (by rw [q21]; decide) (by rw [q21]; rfl) (by decide) ?_
                    refine V_aload_n C 0 dX11_count_149 rfl ?_
                    refine V_get (k0 := 1) (Cn := RX11) (T := TX11) (N := 9) C (nsX_mem (by decide)) rfl iw_X11_count_X11 (by decide) rfl m_X11_count_f19 (ceX_0 _) rfl dX11_count_150 ?_
                    refine V_get (k0 := 13) (Cn := RX2) (T := TX2) (N := 18) C (nsX_mem (by decide)) rfl iw_X11_count_X2 (by decide) rfl m_X11_count_f211 (ceX_3 _) rfl dX11_count_153 ?_
                    exact V_iret C hr hlk dX11_count_156 h
                  · have h := h.2 q21
                    by_cases q22 : x1 = 9
                    · have h := h.1 q22
                      refine V_tswIn C 157 dX11_count_1 (by rw [q22]; decide) (by rw [q22]; decide) (by rw [q22]; rfl) (by decide) ?_
                      refine V_aload_n C 0 dX11_count_157 rfl ?_
                      refine V_get (k0 := 0) (Cn := RX11) (T := TX11) (N := 9) C (nsX_mem (by decide)) rfl iw_X11_count_X11 (by decide) rfl m_X11_count_f10 (ceX_0 _) rfl dX11_count_158 ?_
                      refine V_get (k0 := 1) (Cn := RX5) (T := TX5) (N := 2) C (nsX_mem (by decide)) rfl iw_X11_count_X5 (by decide) rfl m_X11_count_f47 (ceX_1 _) rfl dX11_count_161 ?_
                      exact V_iret C hr hlk dX11_count_164 h
                    · have h := h.2 q22
                      by_cases q23 : x1 = 10
                      · have h := h.1 q23
                        refine V_tswIn C 165 dX11_count_1 (by rw [q23]; decide) (by rw [q23]; decide) (by rw [q23]; rfl) (by decide) ?_
                        refine V_aload_n C 0 dX11_count_165 rfl ?_
                        refine V_get (k0 := 7) (Cn := RX11) (T := TX11) (N := 9) C (nsX_mem (by decide)) rfl iw_X11_count_X11 (by decide) rfl m_X11_count_f71 (ceX_0 _) rfl dX11_count_166 ?_
                        exact V_iret C hr hlk dX11_count_169 h
                      · have h := h.2 q23
                        by_cases q24 : x1 = 11
                        · have h := h.1 q24
                          refine V_tswIn C 170 dX11_count_1 (by rw [q24]; decide) (by rw [q24]; decide) (by rw [q24]; rfl) (by decide) ?_
                          refine V_aload_n C 0 dX11_count_170 rfl ?_
                          refine V_get (k0 := 8) (Cn := RX11) (T := TX11) (N := 9) C (nsX_mem (by decide)) rfl iw_X11_count_X11 (by decide) rfl m_X11_count_f173 (ceX_0 _) rfl dX11_count_171 ?_
                          exact V_iret C hr hlk dX11_count_174 h
                        · have h := h.2 q24
                          refine V_tswOut C 175 dX11_count_1 (by have := lv_neT q1 (show (0 : Int32).toInt = 0 by decide); have := lv_neT q2 (show (1 : Int32).toInt = 1 by decide); have := lv_neT q3 (show (2 : Int32).toInt = 2 by decide); have := lv_neT q4 (show (3 : Int32).toInt = 3 by decide); have := lv_neT q8 (show (4 : Int32).toInt = 4 by decide); have := lv_neT q12 (show (5 : Int32).toInt = 5 by decide); have := lv_neT q16 (show (6 : Int32).toInt = 6 by decide); have := lv_neT q17 (show (7 : Int32).toInt = 7 by decide); have := lv_neT q21 (show (8 : Int32).toInt = 8 by decide); have := lv_neT q22 (show (9 : Int32).toInt = 9 by decide); have := lv_neT q23 (show (10 : Int32).toInt = 10 by decide); have := lv_neT q24 (show (11 : Int32).toInt = 11 by decide); omega) (by decide) ?_
                          refine V_bipush (v := (-102 : Int32)) C dX11_count_175 (by decide) ?_
                          exact V_iret C hr hlk dX11_count_177 h
def w_X11_mix (x1 : Int64) (x2 : Int64) (M : Mm) (post : Int64 → Mm → Prop) : Prop :=
  post (((31 : Int64) * x1) + x2) M
theorem m_X11_mix_c268 : Jvm.Cond.constantLong RX11 268 (31) ∈ wsX11_mix := by decide +kernel
set_option maxHeartbeats 4000000 in
set_option maxRecDepth 100000 in
theorem c_X11_mix (l : Launch) (D : va_G) (cy : Nat → ClassId) (ad : Nat → Nat) (A : Nat → Prop) (G : Gd A ad nsX)   (x1 : Int64) (x2 : Int64) (M : Mm) (post : Int64 → Mm → Prop) (h : w_X11_mix x1 x2 M post) : CL l yX11_mix wsX11_mix (rmL 2) D (tysC cy) A ad nsX (ceX ad cy) (ExX A ad) [.long x1, .long x2] M post := by
  refine Met_V (cc := cX11_mix) (maxL := 4) (ret := (some .long)) (by decide) rfl G Lo_X ExX_ok (Nat.le_of_ble_eq_true rfl) rfl ?_
  intro p e s m args below meth c C hr hlk
  have C : Cx p s m args c cX11_mix 4 RX11 wsX11_mix D (tysC cy) A ad nsX (ceX ad cy) (ExX A ad) := C
  unfold w_X11_mix at h
  refine V_ldc2 (v := (31 : Int64)) C dX11_mix_0 m_X11_mix_c268 ?_
  refine V_lload_n C 0 dX11_mix_3 rfl ?_
  refine V_lmul C dX11_mix_4 ?_
  refine V_lload_n C 1 dX11_mix_5 rfl ?_
  refine V_ladd C dX11_mix_6 ?_
  exact V_lret C hr hlk dX11_mix_7 h
def w_X11_mixWays_17  (post : Int64 → Mm → Prop)  : Nat → Int32 → Int64 → Int32 → Int32 → Mm → Prop
  | 0 => fun _ _ _ _ _ => False
  | n + 1 => fun v3 v4 v6 v7 M =>
    (((M.1 3 1) ≤ v7) → (post v4 M)) ∧ ((¬ (M.1 3 1) ≤ v7) → (w_X9_measure v3 v7 M (fun M3 => w_X9_stepsFrom v6 M3 (fun r5 M6 => w_X11_mix v4 (r5.toInt64) M6 (fun r8 M9 => w_X9_legFrom v6 (0 : Int32) M9 (fun r11 M12 => w_X11_mix r8 (r11.toInt64) M12 (fun r14 M15 => w_X11_mixWays_17  post  n v3 r14 v6 (v7 + 1) M15)))))))
def w_X11_mixWays (x1 : Int64) (x2 : Int32) (M : Mm) (post : Int64 → Mm → Prop) : Prop :=
  (vp_in x2 5) ∧ (∃ n0 : Nat, w_X11_mixWays_17  post  n0 x2 x1 (M.1 16 x2.toNatClampNeg) (0 : Int32) M)
theorem iw_X11_mixWays_X11 : ∀ w ∈ u_ws RX11 TX11 9, w ∈ wsX11_mixWays := by decide +kernel
theorem iw_X11_mixWays_X2 : ∀ w ∈ u_ws RX2 TX2 18, w ∈ wsX11_mixWays := by decide +kernel
theorem m_X11_mixWays_f19 : Cond.fieldLink RX11 19 "ShameYards" "now" "LShameYards$House;" ∈ wsX11_mixWays := by decide +kernel
theorem m_X11_mixWays_f237 : Cond.fieldLink RX11 237 "ShameYards$House" "roomCount" "I" ∈ wsX11_mixWays := by decide +kernel
theorem m_X11_mixWays_f29 : Cond.fieldLink RX11 29 "ShameYards" "ways" "LShameYards$Ways;" ∈ wsX11_mixWays := by decide +kernel
theorem m_X11_mixWays_f95 : Cond.fieldLink RX11 95 "ShameYards$House" "places" "[I" ∈ wsX11_mixWays := by decide +kernel
set_option maxHeartbeats 4000000 in
set_option maxRecDepth 100000 in
theorem c_X11_mixWays (l : Launch) (D : va_G) (cy : Nat → ClassId) (ad : Nat → Nat) (A : Nat → Prop) (G : Gd A ad nsX)   (x1 : Int64) (x2 : Int32) (M : Mm) (post : Int64 → Mm → Prop) (h : w_X11_mixWays x1 x2 M post) : CL l yX11_mixWays wsX11_mixWays (rmL 6) D (tysC cy) A ad nsX (ceX ad cy) (ExX A ad) [.ref (ad 0), .long x1, .int x2] M post := by
  refine Met_V (cc := cX11_mixWays) (maxL := 8) (ret := (some .long)) (by decide) rfl G Lo_X ExX_ok (Nat.le_of_ble_eq_true rfl) rfl ?_
  intro p e s m args below meth c C hr hlk
  have C : Cx p s m args c cX11_mixWays 8 RX11 wsX11_mixWays D (tysC cy) A ad nsX (ceX ad cy) (ExX A ad) := C
  have L17 : ∀  (n : Nat) (v3 : Int32) (v4 : Int64) (v6 : Int32) (v7 : Int32) (M : Mm), w_X11_mixWays_17  post  n v3 v4 v6 v7 M → V p l e (rmL 6) s m args below meth c (MQ below (va_Ql post (Wd D (tysC cy) ad nsX (ceX ad cy) (ExX A ad)) A) args s 0 0 A) D A ad nsX (ceX ad cy) 8 M [(0, .ref (ad 0)), (3, .int v3), (4, .long v4), (6, .int v6), (7, .int v7)] 17 [] := by
    intro  n
    induction n with
    | zero => intro v3 v4 v6 v7 M h; exact h.elim
    | succ n ih =>
    intro v3 v4 v6 v7 M h 
    unfold w_X11_mixWays_17 at h
    refine V_iload C 4 dX11_mixWays_17 rfl ?_
    refine V_aload_n C 0 dX11_mixWays_19 rfl ?_
    refine V_get (k0 := 1) (Cn := RX11) (T := TX11) (N := 9) C (nsX_mem (by decide)) rfl iw_X11_mixWays_X11 (by decide) rfl m_X11_mixWays_f19 (ceX_0 _) rfl dX11_mixWays_20 ?_
    refine V_get (k0 := 1) (Cn := RX2) (T := TX2) (N := 18) C (nsX_mem (by decide)) rfl iw_X11_mixWays_X2 (by decide) rfl m_X11_mixWays_f237 (ceX_3 _) rfl dX11_mixWays_23 ?_
    refine V_icmp_ge C 88 dX11_mixWays_26 (by decide) (fun q1 => ?_) (fun q1 => ?_)
    · have h := h.1 q1
      refine V_lload C 2 dX11_mixWays_88 rfl ?_
      exact V_lret C hr hlk dX11_mixWays_90 h
    · have h := h.2 q1
      refine V_aload_n C 0 dX11_mixWays_29 rfl ?_
      refine V_get (k0 := 3) (Cn := RX11) (T := TX11) (N := 9) C (nsX_mem (by decide)) rfl iw_X11_mixWays_X11 (by decide) rfl m_X11_mixWays_f29 (ceX_0 _) rfl dX11_mixWays_30 ?_
      refine V_aload_n C 0 dX11_mixWays_33 rfl ?_
      refine V_get (k0 := 1) (Cn := RX11) (T := TX11) (N := 9) C (nsX_mem (by decide)) rfl iw_X11_mixWays_X11 (by decide) rfl m_X11_mixWays_f19 (ceX_0 _) rfl dX11_mixWays_34 ?_
      refine V_iload_n C 1 dX11_mixWays_37 rfl ?_
      refine V_iload C 4 dX11_mixWays_38 rfl ?_
      refine V_callVv (q := (RX9, TX9, 6)) (rest := []) C (nsX_mem (by decide)) (ceX_60 _) rfl (c_X9_measure l D cy ad A G v3 v7 M _ h) (cwV 3 C.1.2.2.2.2 gX11_mixWays_X9_measure rfl rfl rfl (by decide +kernel) ⟨by decide, by decide⟩) rfl rfl (Nat.le_of_ble_eq_true rfl) dX11_mixWays_40 (fun M3 h => ?_)
      refine V_lload C 2 dX11_mixWays_43 rfl ?_
      refine V_aload_n C 0 dX11_mixWays_45 rfl ?_
      refine V_get (k0 := 3) (Cn := RX11) (T := TX11) (N := 9) C (nsX_mem (by decide)) rfl iw_X11_mixWays_X11 (by decide) rfl m_X11_mixWays_f29 (ceX_0 _) rfl dX11_mixWays_46 ?_
      refine V_iload C 3 dX11_mixWays_49 rfl ?_
      refine V_callVi (q := (RX9, TX9, 6)) (rest := [.long v4]) C (nsX_mem (by decide)) (ceX_60 _) rfl (c_X9_stepsFrom l D cy ad A G v6 M3 _ h) (cwV 1 C.1.2.2.2.2 gX11_mixWays_X9_stepsFrom rfl rfl rfl (by decide +kernel) ⟨by decide, by decide⟩) rfl rfl (Nat.le_of_ble_eq_true rfl) dX11_mixWays_51 (fun r5 M6 h => ?_)
      refine V_i2l C dX11_mixWays_54 ?_
      refine V_callSl (rest := []) C (c_X11_mix l D cy ad A G v4 (r5.toInt64) M6 _ h) (va_cwS 2 C.1.2.2.2.2 gX11_mixWays_X11_mix rfl rfl rfl (by decide +kernel) ⟨by decide, by decide⟩) rfl rfl (Nat.le_of_ble_eq_true rfl) dX11_mixWays_55 (fun r8 M9 h => ?_)
      refine V_lstore (lv' := [(4, .long r8), (0, .ref (ad 0)), (3, .int v3), (6, .int v6), (7, .int v7)]) C dX11_mixWays_58 (by decide) rfl ?_
      refine V_lload C 0 dX11_mixWays_60 rfl ?_
      refine V_aload_n C 1 dX11_mixWays_62 rfl ?_
      refine V_get (k0 := 3) (Cn := RX11) (T := TX11) (N := 9) C (nsX_mem (by decide)) rfl iw_X11_mixWays_X11 (by decide) rfl m_X11_mixWays_f29 (ceX_0 _) rfl dX11_mixWays_63 ?_
      refine V_aload_n C 1 dX11_mixWays_66 rfl ?_
      refine V_get (k0 := 1) (Cn := RX11) (T := TX11) (N := 9) C (nsX_mem (by decide)) rfl iw_X11_mixWays_X11 (by decide) rfl m_X11_mixWays_f19 (ceX_0 _) rfl dX11_mixWays_67 ?_
      refine V_iload C 3 dX11_mixWays_70 rfl ?_
      refine V_iconst (v := (0 : Int32)) C dX11_mixWays_72 (by decide) ?_
      refine V_callVi (q := (RX9, TX9, 6)) (rest := [.long r8]) C (nsX_mem (by decide)) (ceX_60 _) rfl (c_X9_legFrom l D cy ad A G v6 (0 : Int32) M9 _ h) (cwV 3 C.1.2.2.2.2 gX11_mixWays_X9_legFrom rfl rfl rfl (by decide +kernel) ⟨by decide, by decide⟩) rfl rfl (Nat.le_of_ble_eq_true rfl) dX11_mixWays_73 (fun r11 M12 h => ?_)
      refine V_i2l C dX11_mixWays_76 ?_
      refine V_callSl (rest := []) C (c_X11_mix l D cy ad A G r8 (r11.toInt64) M12 _ h) (va_cwS 2 C.1.2.2.2.2 gX11_mixWays_X11_mix rfl rfl rfl (by decide +kernel) ⟨by decide, by decide⟩) rfl rfl (Nat.le_of_ble_eq_true rfl) dX11_mixWays_77 (fun r14 M15 h => ?_)
      refine V_lstore (lv' := [(4, .long r14), (0, .ref (ad 0)), (3, .int v3), (6, .int v6), (7, .int v7)]) C dX11_mixWays_80 (by decide) rfl ?_
      refine V_iinc (v := (v7 + 1)) (lv' := [(7, .int (v7 + 1)), (4, .long r14), (0, .ref (ad 0)), (3, .int v3), (6, .int v6)]) C 4 dX11_mixWays_82 rfl rfl (by decide) rfl ?_
      refine V_goto C 17 dX11_mixWays_85 (by decide) ?_
      refine V_drop (lv' := [(0, .ref (ad 0)), (3, .int v3), (4, .long r14), (6, .int v6), (7, .int (v7 + 1))]) [2, 3, 1, 4, 0] rfl ?_
      exact ih v3 r14 v6 (v7 + 1) M15 h 
  unfold w_X11_mixWays at h
  refine V_lload_n C 1 dX11_mixWays_0 rfl ?_
  refine V_lstore (lv' := [(4, .long x1), (0, .ref (ad 0)), (1, .long x1), (3, .int x2)]) C dX11_mixWays_1 (by decide) rfl ?_
  refine V_aload_n C 1 dX11_mixWays_3 rfl ?_
  refine V_get (k0 := 1) (Cn := RX11) (T := TX11) (N := 9) C (nsX_mem (by decide)) rfl iw_X11_mixWays_X11 (by decide) rfl m_X11_mixWays_f19 (ceX_0 _) rfl dX11_mixWays_4 ?_
  refine V_get (k0 := 10) (Cn := RX2) (T := TX2) (N := 18) C (nsX_mem (by decide)) rfl iw_X11_mixWays_X2 (by decide) rfl m_X11_mixWays_f95 (ceX_3 _) rfl dX11_mixWays_7 ?_
  refine V_iload_n C 3 dX11_mixWays_10 rfl ?_
  have g17 := h.1
  have h := h.2
  refine V_iald (t0 := 1) (L := 5) C (nsX_mem (by decide)) (fun _ => rfl) rfl g17 dX11_mixWays_11 ?_
  refine V_istore (lv' := [(6, .int (M.1 16 x2.toNatClampNeg)), (4, .long x1), (0, .ref (ad 0)), (1, .long x1), (3, .int x2)]) C dX11_mixWays_12 (by decide) rfl ?_
  refine V_iconst (v := (0 : Int32)) C dX11_mixWays_14 (by decide) ?_
  refine V_istore (lv' := [(7, .int (0 : Int32)), (6, .int (M.1 16 x2.toNatClampNeg)), (4, .long x1), (0, .ref (ad 0)), (1, .long x1), (3, .int x2)]) C dX11_mixWays_15 (by decide) rfl ?_
  refine V_drop (lv' := [(0, .ref (ad 0)), (3, .int x2), (4, .long x1), (6, .int (M.1 16 x2.toNatClampNeg)), (7, .int (0 : Int32))]) [3, 5, 2, 1, 0] rfl ?_
  obtain ⟨n0, h⟩ := h
  exact L17  n0 x2 x1 (M.1 16 x2.toNatClampNeg) (0 : Int32) M h 
def w_X11_mixPassage_63  (post : Int64 → Mm → Prop)  : Nat → Int64 → Int32 → Mm → Prop
  | 0 => fun _ _ _ => False
  | n + 1 => fun v4 v6 M =>
    (((5 : Int32) ≤ v6) → (post v4 M)) ∧ ((¬ (5 : Int32) ≤ v6) → (w_X6_partnerOf v6 M (fun r2 M3 => w_X11_mix v4 (r2.toInt64) M3 (fun r5 M6 => w_X11_mixPassage_63  post  n r5 (v6 + 1) M6))))
def w_X11_mixPassage_6  (post : Int64 → Mm → Prop)  : Nat → Int32 → Int64 → Int32 → Mm → Prop
  | 0 => fun _ _ _ _ => False
  | n + 1 => fun v3 v4 v6 M =>
    (((2 : Int32) < v6) → (w_X6_arrange v3 M (fun M10 => w_X11_mix v4 ((M10.1 71 4).toInt64) M10 (fun r12 M13 => ∃ n0 : Nat, w_X11_mixPassage_63  post  n0 r12 (0 : Int32) M13)))) ∧ ((¬ (2 : Int32) < v6) → (w_X11_tellPassage v3 v6 M (fun r15 M16 => w_X11_mix v4 (r15.toInt64) M16 (fun r18 M19 => w_X11_mixPassage_6  post  n v3 r18 (v6 + 1) M19))))
def w_X11_mixPassage (x1 : Int64) (x2 : Int32) (M : Mm) (post : Int64 → Mm → Prop) : Prop :=
  ∃ n0 : Nat, w_X11_mixPassage_6  post  n0 x2 x1 (0 : Int32) M
theorem iw_X11_mixPassage_X11 : ∀ w ∈ u_ws RX11 TX11 9, w ∈ wsX11_mixPassage := by decide +kernel
theorem iw_X11_mixPassage_X6 : ∀ w ∈ u_ws RX6 TX6 6, w ∈ wsX11_mixPassage := by decide +kernel
theorem m_X11_mixPassage_f36 : Cond.fieldLink RX11 36 "ShameYards" "pairing" "LShameYards$Pairing;" ∈ wsX11_mixPassage := by decide +kernel
theorem m_X11_mixPassage_f19 : Cond.fieldLink RX11 19 "ShameYards" "now" "LShameYards$House;" ∈ wsX11_mixPassage := by decide +kernel
theorem m_X11_mixPassage_f190 : Cond.fieldLink RX11 190 "ShameYards$Pairing" "leastMost" "I" ∈ wsX11_mixPassage := by decide +kernel
set_option maxHeartbeats 4000000 in
set_option maxRecDepth 100000 in
theorem c_X11_mixPassage (l : Launch) (D : va_G) (cy : Nat → ClassId) (ad : Nat → Nat) (A : Nat → Prop) (G : Gd A ad nsX)   (x1 : Int64) (x2 : Int32) (M : Mm) (post : Int64 → Mm → Prop) (h : w_X11_mixPassage x1 x2 M post) : CL l yX11_mixPassage wsX11_mixPassage (rmL 13) D (tysC cy) A ad nsX (ceX ad cy) (ExX A ad) [.ref (ad 0), .long x1, .int x2] M post := by
  refine Met_V (cc := cX11_mixPassage) (maxL := 7) (ret := (some .long)) (by decide) rfl G Lo_X ExX_ok (Nat.le_of_ble_eq_true rfl) rfl ?_
  intro p e s m args below meth c C hr hlk
  have C : Cx p s m args c cX11_mixPassage 7 RX11 wsX11_mixPassage D (tysC cy) A ad nsX (ceX ad cy) (ExX A ad) := C
  have L63 : ∀  (n : Nat) (v4 : Int64) (v6 : Int32) (M : Mm), w_X11_mixPassage_63  post  n v4 v6 M → V p l e (rmL 13) s m args below meth c (MQ below (va_Ql post (Wd D (tysC cy) ad nsX (ceX ad cy) (ExX A ad)) A) args s 0 0 A) D A ad nsX (ceX ad cy) 7 M [(0, .ref (ad 0)), (4, .long v4), (6, .int v6)] 63 [] := by
    intro  n
    induction n with
    | zero => intro v4 v6 M h; exact h.elim
    | succ n ih =>
    intro v4 v6 M h 
    unfold w_X11_mixPassage_63 at h
    refine V_iload C 2 dX11_mixPassage_63 rfl ?_
    refine V_iconst (v := (5 : Int32)) C dX11_mixPassage_65 (by decide) ?_
    refine V_icmp_ge C 96 dX11_mixPassage_66 (by decide) (fun q1 => ?_) (fun q1 => ?_)
    · have h := h.1 q1
      refine V_lload C 1 dX11_mixPassage_96 rfl ?_
      exact V_lret C hr hlk dX11_mixPassage_98 h
    · have h := h.2 q1
      refine V_lload C 1 dX11_mixPassage_69 rfl ?_
      refine V_aload_n C 0 dX11_mixPassage_71 rfl ?_
      refine V_get (k0 := 4) (Cn := RX11) (T := TX11) (N := 9) C (nsX_mem (by decide)) rfl iw_X11_mixPassage_X11 (by decide) rfl m_X11_mixPassage_f36 (ceX_0 _) rfl dX11_mixPassage_72 ?_
      refine V_aload_n C 0 dX11_mixPassage_75 rfl ?_
      refine V_get (k0 := 1) (Cn := RX11) (T := TX11) (N := 9) C (nsX_mem (by decide)) rfl iw_X11_mixPassage_X11 (by decide) rfl m_X11_mixPassage_f19 (ceX_0 _) rfl dX11_mixPassage_76 ?_
      refine V_iload C 2 dX11_mixPassage_79 rfl ?_
      refine V_callVi (q := (RX6, TX6, 6)) (rest := [.long v4]) C (nsX_mem (by decide)) (ceX_71 _) rfl (c_X6_partnerOf l D cy ad A G v6 M _ h) (cwV 2 C.1.2.2.2.2 gX11_mixPassage_X6_partnerOf rfl rfl rfl (by decide +kernel) ⟨by decide, by decide⟩) rfl rfl (Nat.le_of_ble_eq_true rfl) dX11_mixPassage_81 (fun r2 M3 h => ?_)
      refine V_i2l C dX11_mixPassage_84 ?_
      refine V_callSl (rest := []) C (c_X11_mix l D cy ad A G v4 (r2.toInt64) M3 _ h) (va_cwS 2 C.1.2.2.2.2 gX11_mixPassage_X11_mix rfl rfl rfl (by decide +kernel) ⟨by decide, by decide⟩) rfl rfl (Nat.le_of_ble_eq_true rfl) dX11_mixPassage_85 (fun r5 M6 h => ?_)
      refine V_lstore (lv' := [(4, .long r5), (0, .ref (ad 0)), (6, .int v6)]) C dX11_mixPassage_88 (by decide) rfl ?_
      refine V_iinc (v := (v6 + 1)) (lv' := [(6, .int (v6 + 1)), (4, .long r5), (0, .ref (ad 0))]) C 2 dX11_mixPassage_90 rfl rfl (by decide) rfl ?_
      refine V_goto C 63 dX11_mixPassage_93 (by decide) ?_
      refine V_drop (lv' := [(0, .ref (ad 0)), (4, .long r5), (6, .int (v6 + 1))]) [2, 1, 0] rfl ?_
      exact ih r5 (v6 + 1) M6 h 
  have L6 : ∀  (n : Nat) (v3 : Int32) (v4 : Int64) (v6 : Int32) (M : Mm), w_X11_mixPassage_6  post  n v3 v4 v6 M → V p l e (rmL 13) s m args below meth c (MQ below (va_Ql post (Wd D (tysC cy) ad nsX (ceX ad cy) (ExX A ad)) A) args s 0 0 A) D A ad nsX (ceX ad cy) 7 M [(0, .ref (ad 0)), (3, .int v3), (4, .long v4), (6, .int v6)] 6 [] := by
    intro  n
    induction n with
    | zero => intro v3 v4 v6 M h; exact h.elim
    | succ n ih =>
    intro v3 v4 v6 M h 
    unfold w_X11_mixPassage_6 at h
    refine V_iload C 3 dX11_mixPassage_6 rfl ?_
    refine V_iconst (v := (2 : Int32)) C dX11_mixPassage_8 (by decide) ?_
    refine V_icmp_gt C 33 dX11_mixPassage_9 (by decide) (fun q8 => ?_) (fun q8 => ?_)
    · have h := h.1 q8
      refine V_aload_n C 0 dX11_mixPassage_33 rfl ?_
      refine V_get (k0 := 4) (Cn := RX11) (T := TX11) (N := 9) C (nsX_mem (by decide)) rfl iw_X11_mixPassage_X11 (by decide) rfl m_X11_mixPassage_f36 (ceX_0 _) rfl dX11_mixPassage_34 ?_
      refine V_aload_n C 0 dX11_mixPassage_37 rfl ?_
      refine V_get (k0 := 1) (Cn := RX11) (T := TX11) (N := 9) C (nsX_mem (by decide)) rfl iw_X11_mixPassage_X11 (by decide) rfl m_X11_mixPassage_f19 (ceX_0 _) rfl dX11_mixPassage_38 ?_
      refine V_iload_n C 1 dX11_mixPassage_41 rfl ?_
      refine V_callVv (q := (RX6, TX6, 6)) (rest := []) C (nsX_mem (by decide)) (ceX_71 _) rfl (c_X6_arrange l D cy ad A G v3 M _ h) (cwV 2 C.1.2.2.2.2 gX11_mixPassage_X6_arrange rfl rfl rfl (by decide +kernel) ⟨by decide, by decide⟩) rfl rfl (Nat.le_of_ble_eq_true rfl) dX11_mixPassage_42 (fun M10 h => ?_)
      refine V_lload C 2 dX11_mixPassage_45 rfl ?_
      refine V_aload_n C 0 dX11_mixPassage_47 rfl ?_
      refine V_get (k0 := 4) (Cn := RX11) (T := TX11) (N := 9) C (nsX_mem (by decide)) rfl iw_X11_mixPassage_X11 (by decide) rfl m_X11_mixPassage_f36 (ceX_0 _) rfl dX11_mixPassage_48 ?_
      refine V_get (k0 := 4) (Cn := RX6) (T := TX6) (N := 6) C (nsX_mem (by decide)) rfl iw_X11_mixPassage_X6 (by decide) rfl m_X11_mixPassage_f190 (ceX_71 _) rfl dX11_mixPassage_51 ?_
      refine V_i2l C dX11_mixPassage_54 ?_
      refine V_callSl (rest := []) C (c_X11_mix l D cy ad A G v4 ((M10.1 71 4).toInt64) M10 _ h) (va_cwS 2 C.1.2.2.2.2 gX11_mixPassage_X11_mix rfl rfl rfl (by decide +kernel) ⟨by decide, by decide⟩) rfl rfl (Nat.le_of_ble_eq_true rfl) dX11_mixPassage_55 (fun r12 M13 h => ?_)
      refine V_lstore (lv' := [(4, .long r12), (0, .ref (ad 0)), (3, .int v3), (6, .int v6)]) C dX11_mixPassage_58 (by decide) rfl ?_
      refine V_iconst (v := (0 : Int32)) C dX11_mixPassage_60 (by decide) ?_
      refine V_istore (lv' := [(6, .int (0 : Int32)), (4, .long r12), (0, .ref (ad 0)), (3, .int v3)]) C dX11_mixPassage_61 (by decide) rfl ?_
      refine V_drop (lv' := [(0, .ref (ad 0)), (4, .long r12), (6, .int (0 : Int32))]) [2, 1, 0] rfl ?_
      obtain ⟨n0, h⟩ := h
      exact L63  n0 r12 (0 : Int32) M13 h 
    · have h := h.2 q8
      refine V_lload C 2 dX11_mixPassage_12 rfl ?_
      refine V_aload_n C 0 dX11_mixPassage_14 rfl ?_
      refine V_iload_n C 1 dX11_mixPassage_15 rfl ?_
      refine V_iload C 3 dX11_mixPassage_16 rfl ?_
      refine V_callVi (q := (RX11, TX11, 9)) (rest := [.long v4]) C (nsX_mem (by decide)) (ceX_0 _) rfl (c_X11_tellPassage l D cy ad A G v3 v6 M _ h) (cwV 2 C.1.2.2.2.2 gX11_mixPassage_X11_tellPassage rfl rfl rfl (by decide +kernel) ⟨by decide, by decide⟩) rfl rfl (Nat.le_of_ble_eq_true rfl) dX11_mixPassage_18 (fun r15 M16 h => ?_)
      refine V_i2l C dX11_mixPassage_21 ?_
      refine V_callSl (rest := []) C (c_X11_mix l D cy ad A G v4 (r15.toInt64) M16 _ h) (va_cwS 2 C.1.2.2.2.2 gX11_mixPassage_X11_mix rfl rfl rfl (by decide +kernel) ⟨by decide, by decide⟩) rfl rfl (Nat.le_of_ble_eq_true rfl) dX11_mixPassage_22 (fun r18 M19 h => ?_)
      refine V_lstore (lv' := [(4, .long r18), (0, .ref (ad 0)), (3, .int v3), (6, .int v6)]) C dX11_mixPassage_25 (by decide) rfl ?_
      refine V_iinc (v := (v6 + 1)) (lv' := [(6, .int (v6 + 1)), (4, .long r18), (0, .ref (ad 0)), (3, .int v3)]) C 3 dX11_mixPassage_27 rfl rfl (by decide) rfl ?_
      refine V_goto C 6 dX11_mixPassage_30 (by decide) ?_
      refine V_drop (lv' := [(0, .ref (ad 0)), (3, .int v3), (4, .long r18), (6, .int (v6 + 1))]) [2, 3, 1, 0] rfl ?_
      exact ih v3 r18 (v6 + 1) M19 h 
  unfold w_X11_mixPassage at h
  refine V_lload_n C 1 dX11_mixPassage_0 rfl ?_
  refine V_lstore (lv' := [(4, .long x1), (0, .ref (ad 0)), (1, .long x1), (3, .int x2)]) C dX11_mixPassage_1 (by decide) rfl ?_
  refine V_iconst (v := (0 : Int32)) C dX11_mixPassage_3 (by decide) ?_
  refine V_istore (lv' := [(6, .int (0 : Int32)), (4, .long x1), (0, .ref (ad 0)), (1, .long x1), (3, .int x2)]) C dX11_mixPassage_4 (by decide) rfl ?_
  refine V_drop (lv' := [(0, .ref (ad 0)), (3, .int x2), (4, .long x1), (6, .int (0 : Int32))]) [2, 4, 1, 0] rfl ?_
  obtain ⟨n0, h⟩ := h
  exact L6  n0 x2 x1 (0 : Int32) M h 
def w_X11_digest_20  (post : Int64 → Mm → Prop) (k6 : Int64 → Int32 → Mm → Prop) : Nat → Int64 → Int32 → Int32 → Mm → Prop
  | 0 => fun _ _ _ _ => False
  | n + 1 => fun v1 v3 v4 M =>
    (((6 : Int32) < v4) → (w_X11_mixWays v1 v3 M (fun r2 M3 => k6 r2 (v3 + 1) M3))) ∧ ((¬ (6 : Int32) < v4) → (w_X11_tellPerson v3 v4 M (fun r5 M6 => w_X11_mix v1 (r5.toInt64) M6 (fun r8 M9 => w_X11_digest_20  post k6 n r8 v3 (v4 + 1) M9))))
def w_X11_digest_167  (post : Int64 → Mm → Prop)  : Nat → Int64 → Int32 → Mm → Prop
  | 0 => fun _ _ _ => False
  | n + 1 => fun v1 v3 M =>
    (((11 : Int32) < v3) → (post v1 M)) ∧ ((¬ (11 : Int32) < v3) → (w_X11_count v3 M (fun r12 M13 => w_X11_mix v1 (r12.toInt64) M13 (fun r15 M16 => w_X11_digest_167  post  n r15 (v3 + 1) M16))))
def w_X11_digest_134  (post : Int64 → Mm → Prop)  : Nat → Int64 → Int32 → Mm → Prop
  | 0 => fun _ _ _ => False
  | n + 1 => fun v1 v3 M =>
    (((M.1 1 1) ≤ v3) → (∃ n0 : Nat, w_X11_digest_167  post  n0 v1 (0 : Int32) M)) ∧ ((¬ (M.1 1 1) ≤ v3) → (w_X5_codeAt v3 M (fun r19 M20 => w_X11_mix v1 (r19.toInt64) M20 (fun r22 M23 => w_X11_digest_134  post  n r22 (v3 + 1) M23))))
def w_X11_digest_61  (post : Int64 → Mm → Prop)  : Nat → Int64 → Int32 → Mm → Prop
  | 0 => fun _ _ _ => False
  | n + 1 => fun v1 v3 M =>
    (((M.1 3 2) ≤ v3) → ((((M.1 3 3) < (2 : Int32)) → (∃ n0 : Nat, w_X11_digest_134  post  n0 v1 (0 : Int32) M)) ∧ ((¬ (M.1 3 3) < (2 : Int32)) → (w_X8_compare (0 : Int32) (1 : Int32) (2 : Int32) M (fun M28 => w_X11_mix v1 (M28.2 80 4) M28 (fun r30 M31 => w_X11_mix r30 (M31.2 80 5) M31 (fun r33 M34 => ∃ n0 : Nat, w_X11_digest_134  post  n0 r33 (0 : Int32) M34))))))) ∧ ((¬ (M.1 3 2) ≤ v3) → (w_X11_mixPassage v1 v3 M (fun r36 M37 => w_X11_digest_61  post  n r36 (v3 + 1) M37)))
def w_X11_digest_6  (post : Int64 → Mm → Prop)  : Nat → Int64 → Int32 → Mm → Prop
  | 0 => fun _ _ _ => False
  | n + 1 => fun v1 v3 M =>
    (((M.1 3 3) ≤ v3) → (∃ n0 : Nat, w_X11_digest_61  post  n0 v1 (0 : Int32) M)) ∧ ((¬ (M.1 3 3) ≤ v3) → (∃ n0 : Nat, w_X11_digest_20  post (w_X11_digest_6  post  n) n0 v1 v3 (0 : Int32) M))
def w_X11_digest  (M : Mm) (post : Int64 → Mm → Prop) : Prop :=
  ∃ n0 : Nat, w_X11_digest_6  post  n0 (1193 : Int64) (0 : Int32) M
theorem iw_X11_digest_X11 : ∀ w ∈ u_ws RX11 TX11 9, w ∈ wsX11_digest := by decide +kernel
theorem iw_X11_digest_X5 : ∀ w ∈ u_ws RX5 TX5 2, w ∈ wsX11_digest := by decide +kernel
theorem iw_X11_digest_X2 : ∀ w ∈ u_ws RX2 TX2 18, w ∈ wsX11_digest := by decide +kernel
theorem iw_X11_digest_X8 : ∀ w ∈ u_ws RX8 TX8 8, w ∈ wsX11_digest := by decide +kernel
theorem m_X11_digest_f10 : Cond.fieldLink RX11 10 "ShameYards" "page" "LShameYards$Page;" ∈ wsX11_digest := by decide +kernel
theorem m_X11_digest_f47 : Cond.fieldLink RX11 47 "ShameYards$Page" "size" "I" ∈ wsX11_digest := by decide +kernel
theorem m_X11_digest_f19 : Cond.fieldLink RX11 19 "ShameYards" "now" "LShameYards$House;" ∈ wsX11_digest := by decide +kernel
theorem m_X11_digest_f240 : Cond.fieldLink RX11 240 "ShameYards$House" "passageCount" "I" ∈ wsX11_digest := by decide +kernel
theorem m_X11_digest_f74 : Cond.fieldLink RX11 74 "ShameYards$House" "peopleCount" "I" ∈ wsX11_digest := by decide +kernel
theorem m_X11_digest_f43 : Cond.fieldLink RX11 43 "ShameYards" "wander" "LShameYards$Wander;" ∈ wsX11_digest := by decide +kernel
theorem m_X11_digest_f204 : Cond.fieldLink RX11 204 "ShameYards$Wander" "above" "J" ∈ wsX11_digest := by decide +kernel
theorem m_X11_digest_f208 : Cond.fieldLink RX11 208 "ShameYards$Wander" "below" "J" ∈ wsX11_digest := by decide +kernel
theorem m_X11_digest_c249 : Jvm.Cond.constantLong RX11 249 (1193) ∈ wsX11_digest := by decide +kernel
set_option maxHeartbeats 4000000 in
set_option maxRecDepth 100000 in
theorem c_X11_digest (l : Launch) (D : va_G) (cy : Nat → ClassId) (ad : Nat → Nat) (A : Nat → Prop) (G : Gd A ad nsX)    (M : Mm) (post : Int64 → Mm → Prop) (h : w_X11_digest  M post) : CL l yX11_digest wsX11_digest (rmL 14) D (tysC cy) A ad nsX (ceX ad cy) (ExX A ad) [.ref (ad 0)] M post := by
  refine Met_V (cc := cX11_digest) (maxL := 5) (ret := (some .long)) (by decide) rfl G Lo_X ExX_ok (Nat.le_of_ble_eq_true rfl) rfl ?_
  intro p e s m args below meth c C hr hlk
  have C : Cx p s m args c cX11_digest 5 RX11 wsX11_digest D (tysC cy) A ad nsX (ceX ad cy) (ExX A ad) := C
  have L20 : ∀ (k6 : Int64 → Int32 → Mm → Prop) (hk6 : ∀ (v1 : Int64) (v3 : Int32) (M : Mm), k6 v1 v3 M → V p l e (rmL 14) s m args below meth c (MQ below (va_Ql post (Wd D (tysC cy) ad nsX (ceX ad cy) (ExX A ad)) A) args s 0 0 A) D A ad nsX (ceX ad cy) 5 M [(0, .ref (ad 0)), (1, .long v1), (3, .int v3)] 6 []) (n : Nat) (v1 : Int64) (v3 : Int32) (v4 : Int32) (M : Mm), w_X11_digest_20  post k6 n v1 v3 v4 M → V p l e (rmL 14) s m args below meth c (MQ below (va_Ql post (Wd D (tysC cy) ad nsX (ceX ad cy) (ExX A ad)) A) args s 0 0 A) D A ad nsX (ceX ad cy) 5 M [(0, .ref (ad 0)), (1, .long v1), (3, .int v3), (4, .int v4)] 20 [] := by
    intro k6 hk6 n
    induction n with
    | zero => intro v1 v3 v4 M h; exact h.elim
    | succ n ih =>
    intro v1 v3 v4 M h 
    unfold w_X11_digest_20 at h
    refine V_iload C 3 dX11_digest_20 rfl ?_
    refine V_bipush (v := (6 : Int32)) C dX11_digest_22 (by decide) ?_
    refine V_icmp_gt C 46 dX11_digest_24 (by decide) (fun q1 => ?_) (fun q1 => ?_)
    · have h := h.1 q1
      refine V_aload_n C 0 dX11_digest_46 rfl ?_
      refine V_lload_n C 1 dX11_digest_47 rfl ?_
      refine V_iload_n C 2 dX11_digest_48 rfl ?_
      refine V_callVl (q := (RX11, TX11, 9)) (rest := []) C (nsX_mem (by decide)) (ceX_0 _) rfl (c_X11_mixWays l D cy ad A G v1 v3 M _ h) (cwV 2 C.1.2.2.2.2 gX11_digest_X11_mixWays rfl rfl rfl (by decide +kernel) ⟨by decide, by decide⟩) rfl rfl (Nat.le_of_ble_eq_true rfl) dX11_digest_49 (fun r2 M3 h => ?_)
      refine V_lstore_n (lv' := [(1, .long r2), (0, .ref (ad 0)), (3, .int v3), (4, .int v4)]) C dX11_digest_52 rfl (by decide) rfl ?_
      refine V_iinc (v := (v3 + 1)) (lv' := [(3, .int (v3 + 1)), (1, .long r2), (0, .ref (ad 0)), (4, .int v4)]) C 2 dX11_digest_53 rfl rfl (by decide) rfl ?_
      refine V_goto C 6 dX11_digest_56 (by decide) ?_
      refine V_drop (lv' := [(0, .ref (ad 0)), (1, .long r2), (3, .int (v3 + 1))]) [2, 1, 0] rfl ?_
      exact hk6 r2 (v3 + 1) M3 h 
    · have h := h.2 q1
      refine V_lload_n C 1 dX11_digest_27 rfl ?_
      refine V_aload_n C 0 dX11_digest_28 rfl ?_
      refine V_iload_n C 2 dX11_digest_29 rfl ?_
      refine V_iload C 3 dX11_digest_30 rfl ?_
      refine V_callVi (q := (RX11, TX11, 9)) (rest := [.long v1]) C (nsX_mem (by decide)) (ceX_0 _) rfl (c_X11_tellPerson l D cy ad A G v3 v4 M _ h) (cwV 2 C.1.2.2.2.2 gX11_digest_X11_tellPerson rfl rfl rfl (by decide +kernel) ⟨by decide, by decide⟩) rfl rfl (Nat.le_of_ble_eq_true rfl) dX11_digest_32 (fun r5 M6 h => ?_)
      refine V_i2l C dX11_digest_35 ?_
      refine V_callSl (rest := []) C (c_X11_mix l D cy ad A G v1 (r5.toInt64) M6 _ h) (va_cwS 2 C.1.2.2.2.2 gX11_digest_X11_mix rfl rfl rfl (by decide +kernel) ⟨by decide, by decide⟩) rfl rfl (Nat.le_of_ble_eq_true rfl) dX11_digest_36 (fun r8 M9 h => ?_)
      refine V_lstore_n (lv' := [(1, .long r8), (0, .ref (ad 0)), (3, .int v3), (4, .int v4)]) C dX11_digest_39 rfl (by decide) rfl ?_
      refine V_iinc (v := (v4 + 1)) (lv' := [(4, .int (v4 + 1)), (1, .long r8), (0, .ref (ad 0)), (3, .int v3)]) C 3 dX11_digest_40 rfl rfl (by decide) rfl ?_
      refine V_goto C 20 dX11_digest_43 (by decide) ?_
      refine V_drop (lv' := [(0, .ref (ad 0)), (1, .long r8), (3, .int v3), (4, .int (v4 + 1))]) [2, 1, 3, 0] rfl ?_
      exact ih r8 v3 (v4 + 1) M9 h 
  have L167 : ∀  (n : Nat) (v1 : Int64) (v3 : Int32) (M : Mm), w_X11_digest_167  post  n v1 v3 M → V p l e (rmL 14) s m args below meth c (MQ below (va_Ql post (Wd D (tysC cy) ad nsX (ceX ad cy) (ExX A ad)) A) args s 0 0 A) D A ad nsX (ceX ad cy) 5 M [(0, .ref (ad 0)), (1, .long v1), (3, .int v3)] 167 [] := by
    intro  n
    induction n with
    | zero => intro v1 v3 M h; exact h.elim
    | succ n ih =>
    intro v1 v3 M h 
    unfold w_X11_digest_167 at h
    refine V_iload_n C 2 dX11_digest_167 rfl ?_
    refine V_bipush (v := (11 : Int32)) C dX11_digest_168 (by decide) ?_
    refine V_icmp_gt C 190 dX11_digest_170 (by decide) (fun q11 => ?_) (fun q11 => ?_)
    · have h := h.1 q11
      refine V_lload_n C 1 dX11_digest_190 rfl ?_
      exact V_lret C hr hlk dX11_digest_191 h
    · have h := h.2 q11
      refine V_lload_n C 1 dX11_digest_173 rfl ?_
      refine V_aload_n C 0 dX11_digest_174 rfl ?_
      refine V_iload_n C 2 dX11_digest_175 rfl ?_
      refine V_callVi (q := (RX11, TX11, 9)) (rest := [.long v1]) C (nsX_mem (by decide)) (ceX_0 _) rfl (c_X11_count l D cy ad A G v3 M _ h) (cwV 1 C.1.2.2.2.2 gX11_digest_X11_count rfl rfl rfl (by decide +kernel) ⟨by decide, by decide⟩) rfl rfl (Nat.le_of_ble_eq_true rfl) dX11_digest_176 (fun r12 M13 h => ?_)
      refine V_i2l C dX11_digest_179 ?_
      refine V_callSl (rest := []) C (c_X11_mix l D cy ad A G v1 (r12.toInt64) M13 _ h) (va_cwS 2 C.1.2.2.2.2 gX11_digest_X11_mix rfl rfl rfl (by decide +kernel) ⟨by decide, by decide⟩) rfl rfl (Nat.le_of_ble_eq_true rfl) dX11_digest_180 (fun r15 M16 h => ?_)
      refine V_lstore_n (lv' := [(1, .long r15), (0, .ref (ad 0)), (3, .int v3)]) C dX11_digest_183 rfl (by decide) rfl ?_
      refine V_iinc (v := (v3 + 1)) (lv' := [(3, .int (v3 + 1)), (1, .long r15), (0, .ref (ad 0))]) C 2 dX11_digest_184 rfl rfl (by decide) rfl ?_
      refine V_goto C 167 dX11_digest_187 (by decide) ?_
      refine V_drop (lv' := [(0, .ref (ad 0)), (1, .long r15), (3, .int (v3 + 1))]) [2, 1, 0] rfl ?_
      exact ih r15 (v3 + 1) M16 h 
  have L134 : ∀  (n : Nat) (v1 : Int64) (v3 : Int32) (M : Mm), w_X11_digest_134  post  n v1 v3 M → V p l e (rmL 14) s m args below meth c (MQ below (va_Ql post (Wd D (tysC cy) ad nsX (ceX ad cy) (ExX A ad)) A) args s 0 0 A) D A ad nsX (ceX ad cy) 5 M [(0, .ref (ad 0)), (1, .long v1), (3, .int v3)] 134 [] := by
    intro  n
    induction n with
    | zero => intro v1 v3 M h; exact h.elim
    | succ n ih =>
    intro v1 v3 M h 
    unfold w_X11_digest_134 at h
    refine V_iload_n C 2 dX11_digest_134 rfl ?_
    refine V_aload_n C 0 dX11_digest_135 rfl ?_
    refine V_get (k0 := 0) (Cn := RX11) (T := TX11) (N := 9) C (nsX_mem (by decide)) rfl iw_X11_digest_X11 (by decide) rfl m_X11_digest_f10 (ceX_0 _) rfl dX11_digest_136 ?_
    refine V_get (k0 := 1) (Cn := RX5) (T := TX5) (N := 2) C (nsX_mem (by decide)) rfl iw_X11_digest_X5 (by decide) rfl m_X11_digest_f47 (ceX_1 _) rfl dX11_digest_139 ?_
    refine V_icmp_ge C 165 dX11_digest_142 (by decide) (fun q18 => ?_) (fun q18 => ?_)
    · have h := h.1 q18
      refine V_iconst (v := (0 : Int32)) C dX11_digest_165 (by decide) ?_
      refine V_istore_n (lv' := [(3, .int (0 : Int32)), (0, .ref (ad 0)), (1, .long v1)]) C dX11_digest_166 rfl (by decide) rfl ?_
      refine V_drop (lv' := [(0, .ref (ad 0)), (1, .long v1), (3, .int (0 : Int32))]) [1, 2, 0] rfl ?_
      obtain ⟨n0, h⟩ := h
      exact L167  n0 v1 (0 : Int32) M h 
    · have h := h.2 q18
      refine V_lload_n C 1 dX11_digest_145 rfl ?_
      refine V_aload_n C 0 dX11_digest_146 rfl ?_
      refine V_get (k0 := 0) (Cn := RX11) (T := TX11) (N := 9) C (nsX_mem (by decide)) rfl iw_X11_digest_X11 (by decide) rfl m_X11_digest_f10 (ceX_0 _) rfl dX11_digest_147 ?_
      refine V_iload_n C 2 dX11_digest_150 rfl ?_
      refine V_callVi (q := (RX5, TX5, 2)) (rest := [.long v1]) C (nsX_mem (by decide)) (ceX_1 _) rfl (c_X5_codeAt l D cy ad A G v3 M _ h) (cwV 1 C.1.2.2.2.2 gX11_digest_X5_codeAt rfl rfl rfl (by decide +kernel) ⟨by decide, by decide⟩) rfl rfl (Nat.le_of_ble_eq_true rfl) dX11_digest_151 (fun r19 M20 h => ?_)
      refine V_i2l C dX11_digest_154 ?_
      refine V_callSl (rest := []) C (c_X11_mix l D cy ad A G v1 (r19.toInt64) M20 _ h) (va_cwS 2 C.1.2.2.2.2 gX11_digest_X11_mix rfl rfl rfl (by decide +kernel) ⟨by decide, by decide⟩) rfl rfl (Nat.le_of_ble_eq_true rfl) dX11_digest_155 (fun r22 M23 h => ?_)
      refine V_lstore_n (lv' := [(1, .long r22), (0, .ref (ad 0)), (3, .int v3)]) C dX11_digest_158 rfl (by decide) rfl ?_
      refine V_iinc (v := (v3 + 1)) (lv' := [(3, .int (v3 + 1)), (1, .long r22), (0, .ref (ad 0))]) C 2 dX11_digest_159 rfl rfl (by decide) rfl ?_
      refine V_goto C 134 dX11_digest_162 (by decide) ?_
      refine V_drop (lv' := [(0, .ref (ad 0)), (1, .long r22), (3, .int (v3 + 1))]) [2, 1, 0] rfl ?_
      exact ih r22 (v3 + 1) M23 h 
  have L61 : ∀  (n : Nat) (v1 : Int64) (v3 : Int32) (M : Mm), w_X11_digest_61  post  n v1 v3 M → V p l e (rmL 14) s m args below meth c (MQ below (va_Ql post (Wd D (tysC cy) ad nsX (ceX ad cy) (ExX A ad)) A) args s 0 0 A) D A ad nsX (ceX ad cy) 5 M [(0, .ref (ad 0)), (1, .long v1), (3, .int v3)] 61 [] := by
    intro  n
    induction n with
    | zero => intro v1 v3 M h; exact h.elim
    | succ n ih =>
    intro v1 v3 M h 
    unfold w_X11_digest_61 at h
    refine V_iload_n C 2 dX11_digest_61 rfl ?_
    refine V_aload_n C 0 dX11_digest_62 rfl ?_
    refine V_get (k0 := 1) (Cn := RX11) (T := TX11) (N := 9) C (nsX_mem (by decide)) rfl iw_X11_digest_X11 (by decide) rfl m_X11_digest_f19 (ceX_0 _) rfl dX11_digest_63 ?_
    refine V_get (k0 := 2) (Cn := RX2) (T := TX2) (N := 18) C (nsX_mem (by decide)) rfl iw_X11_digest_X2 (by decide) rfl m_X11_digest_f240 (ceX_3 _) rfl dX11_digest_66 ?_
    refine V_icmp_ge C 85 dX11_digest_69 (by decide) (fun q25 => ?_) (fun q25 => ?_)
    · have h := h.1 q25
      refine V_aload_n C 0 dX11_digest_85 rfl ?_
      refine V_get (k0 := 1) (Cn := RX11) (T := TX11) (N := 9) C (nsX_mem (by decide)) rfl iw_X11_digest_X11 (by decide) rfl m_X11_digest_f19 (ceX_0 _) rfl dX11_digest_86 ?_
      refine V_get (k0 := 3) (Cn := RX2) (T := TX2) (N := 18) C (nsX_mem (by decide)) rfl iw_X11_digest_X2 (by decide) rfl m_X11_digest_f74 (ceX_3 _) rfl dX11_digest_89 ?_
      refine V_iconst (v := (2 : Int32)) C dX11_digest_92 (by decide) ?_
      refine V_icmp_lt C 132 dX11_digest_93 (by decide) (fun q26 => ?_) (fun q26 => ?_)
      · have h := h.1 q26
        refine V_iconst (v := (0 : Int32)) C dX11_digest_132 (by decide) ?_
        refine V_istore_n (lv' := [(3, .int (0 : Int32)), (0, .ref (ad 0)), (1, .long v1)]) C dX11_digest_133 rfl (by decide) rfl ?_
        refine V_drop (lv' := [(0, .ref (ad 0)), (1, .long v1), (3, .int (0 : Int32))]) [1, 2, 0] rfl ?_
        obtain ⟨n0, h⟩ := h
        exact L134  n0 v1 (0 : Int32) M h 
      · have h := h.2 q26
        refine V_aload_n C 0 dX11_digest_96 rfl ?_
        refine V_get (k0 := 5) (Cn := RX11) (T := TX11) (N := 9) C (nsX_mem (by decide)) rfl iw_X11_digest_X11 (by decide) rfl m_X11_digest_f43 (ceX_0 _) rfl dX11_digest_97 ?_
        refine V_aload_n C 0 dX11_digest_100 rfl ?_
        refine V_get (k0 := 1) (Cn := RX11) (T := TX11) (N := 9) C (nsX_mem (by decide)) rfl iw_X11_digest_X11 (by decide) rfl m_X11_digest_f19 (ceX_0 _) rfl dX11_digest_101 ?_
        refine V_iconst (v := (0 : Int32)) C dX11_digest_104 (by decide) ?_
        refine V_iconst (v := (1 : Int32)) C dX11_digest_105 (by decide) ?_
        refine V_iconst (v := (2 : Int32)) C dX11_digest_106 (by decide) ?_
        refine V_callVv (q := (RX8, TX8, 8)) (rest := []) C (nsX_mem (by decide)) (ceX_80 _) rfl (c_X8_compare l D cy ad A G (0 : Int32) (1 : Int32) (2 : Int32) M _ h) (cwV 4 C.1.2.2.2.2 gX11_digest_X8_compare rfl rfl rfl (by decide +kernel) ⟨by decide, by decide⟩) rfl rfl (Nat.le_of_ble_eq_true rfl) dX11_digest_107 (fun M28 h => ?_)
        refine V_lload_n C 1 dX11_digest_110 rfl ?_
        refine V_aload_n C 0 dX11_digest_111 rfl ?_
        refine V_get (k0 := 5) (Cn := RX11) (T := TX11) (N := 9) C (nsX_mem (by decide)) rfl iw_X11_digest_X11 (by decide) rfl m_X11_digest_f43 (ceX_0 _) rfl dX11_digest_112 ?_
        refine V_get (k0 := 4) (Cn := RX8) (T := TX8) (N := 8) C (nsX_mem (by decide)) rfl iw_X11_digest_X8 (by decide) rfl m_X11_digest_f204 (ceX_80 _) rfl dX11_digest_115 ?_
        refine V_callSl (rest := []) C (c_X11_mix l D cy ad A G v1 (M28.2 80 4) M28 _ h) (va_cwS 2 C.1.2.2.2.2 gX11_digest_X11_mix rfl rfl rfl (by decide +kernel) ⟨by decide, by decide⟩) rfl rfl (Nat.le_of_ble_eq_true rfl) dX11_digest_118 (fun r30 M31 h => ?_)
        refine V_aload_n C 0 dX11_digest_121 rfl ?_
        refine V_get (k0 := 5) (Cn := RX11) (T := TX11) (N := 9) C (nsX_mem (by decide)) rfl iw_X11_digest_X11 (by decide) rfl m_X11_digest_f43 (ceX_0 _) rfl dX11_digest_122 ?_
        refine V_get (k0 := 5) (Cn := RX8) (T := TX8) (N := 8) C (nsX_mem (by decide)) rfl iw_X11_digest_X8 (by decide) rfl m_X11_digest_f208 (ceX_80 _) rfl dX11_digest_125 ?_
        refine V_callSl (rest := []) C (c_X11_mix l D cy ad A G r30 (M31.2 80 5) M31 _ h) (va_cwS 2 C.1.2.2.2.2 gX11_digest_X11_mix rfl rfl rfl (by decide +kernel) ⟨by decide, by decide⟩) rfl rfl (Nat.le_of_ble_eq_true rfl) dX11_digest_128 (fun r33 M34 h => ?_)
        refine V_lstore_n (lv' := [(1, .long r33), (0, .ref (ad 0)), (3, .int v3)]) C dX11_digest_131 rfl (by decide) rfl ?_
        refine V_iconst (v := (0 : Int32)) C dX11_digest_132 (by decide) ?_
        refine V_istore_n (lv' := [(3, .int (0 : Int32)), (1, .long r33), (0, .ref (ad 0))]) C dX11_digest_133 rfl (by decide) rfl ?_
        refine V_drop (lv' := [(0, .ref (ad 0)), (1, .long r33), (3, .int (0 : Int32))]) [2, 1, 0] rfl ?_
        obtain ⟨n0, h⟩ := h
        exact L134  n0 r33 (0 : Int32) M34 h 
    · have h := h.2 q25
      refine V_aload_n C 0 dX11_digest_72 rfl ?_
      refine V_lload_n C 1 dX11_digest_73 rfl ?_
      refine V_iload_n C 2 dX11_digest_74 rfl ?_
      refine V_callVl (q := (RX11, TX11, 9)) (rest := []) C (nsX_mem (by decide)) (ceX_0 _) rfl (c_X11_mixPassage l D cy ad A G v1 v3 M _ h) (cwV 2 C.1.2.2.2.2 gX11_digest_X11_mixPassage rfl rfl rfl (by decide +kernel) ⟨by decide, by decide⟩) rfl rfl (Nat.le_of_ble_eq_true rfl) dX11_digest_75 (fun r36 M37 h => ?_)
      refine V_lstore_n (lv' := [(1, .long r36), (0, .ref (ad 0)), (3, .int v3)]) C dX11_digest_78 rfl (by decide) rfl ?_
      refine V_iinc (v := (v3 + 1)) (lv' := [(3, .int (v3 + 1)), (1, .long r36), (0, .ref (ad 0))]) C 2 dX11_digest_79 rfl rfl (by decide) rfl ?_
      refine V_goto C 61 dX11_digest_82 (by decide) ?_
      refine V_drop (lv' := [(0, .ref (ad 0)), (1, .long r36), (3, .int (v3 + 1))]) [2, 1, 0] rfl ?_
      exact ih r36 (v3 + 1) M37 h 
  have L6 : ∀  (n : Nat) (v1 : Int64) (v3 : Int32) (M : Mm), w_X11_digest_6  post  n v1 v3 M → V p l e (rmL 14) s m args below meth c (MQ below (va_Ql post (Wd D (tysC cy) ad nsX (ceX ad cy) (ExX A ad)) A) args s 0 0 A) D A ad nsX (ceX ad cy) 5 M [(0, .ref (ad 0)), (1, .long v1), (3, .int v3)] 6 [] := by
    intro  n
    induction n with
    | zero => intro v1 v3 M h; exact h.elim
    | succ n ih =>
    intro v1 v3 M h 
    unfold w_X11_digest_6 at h
    refine V_iload_n C 2 dX11_digest_6 rfl ?_
    refine V_aload_n C 0 dX11_digest_7 rfl ?_
    refine V_get (k0 := 1) (Cn := RX11) (T := TX11) (N := 9) C (nsX_mem (by decide)) rfl iw_X11_digest_X11 (by decide) rfl m_X11_digest_f19 (ceX_0 _) rfl dX11_digest_8 ?_
    refine V_get (k0 := 3) (Cn := RX2) (T := TX2) (N := 18) C (nsX_mem (by decide)) rfl iw_X11_digest_X2 (by decide) rfl m_X11_digest_f74 (ceX_3 _) rfl dX11_digest_11 ?_
    refine V_icmp_ge C 59 dX11_digest_14 (by decide) (fun q39 => ?_) (fun q39 => ?_)
    · have h := h.1 q39
      refine V_iconst (v := (0 : Int32)) C dX11_digest_59 (by decide) ?_
      refine V_istore_n (lv' := [(3, .int (0 : Int32)), (0, .ref (ad 0)), (1, .long v1)]) C dX11_digest_60 rfl (by decide) rfl ?_
      refine V_drop (lv' := [(0, .ref (ad 0)), (1, .long v1), (3, .int (0 : Int32))]) [1, 2, 0] rfl ?_
      obtain ⟨n0, h⟩ := h
      exact L61  n0 v1 (0 : Int32) M h 
    · have h := h.2 q39
      refine V_iconst (v := (0 : Int32)) C dX11_digest_17 (by decide) ?_
      refine V_istore (lv' := [(4, .int (0 : Int32)), (0, .ref (ad 0)), (1, .long v1), (3, .int v3)]) C dX11_digest_18 (by decide) rfl ?_
      refine V_drop (lv' := [(0, .ref (ad 0)), (1, .long v1), (3, .int v3), (4, .int (0 : Int32))]) [1, 2, 3, 0] rfl ?_
      obtain ⟨n0, h⟩ := h
      exact L20 (w_X11_digest_6  post  n) ih n0 v1 v3 (0 : Int32) M h 
  unfold w_X11_digest at h
  refine V_ldc2 (v := (1193 : Int64)) C dX11_digest_0 m_X11_digest_c249 ?_
  refine V_lstore_n (lv' := [(1, .long (1193 : Int64)), (0, .ref (ad 0))]) C dX11_digest_3 rfl (by decide) rfl ?_
  refine V_iconst (v := (0 : Int32)) C dX11_digest_4 (by decide) ?_
  refine V_istore_n (lv' := [(3, .int (0 : Int32)), (1, .long (1193 : Int64)), (0, .ref (ad 0))]) C dX11_digest_5 rfl (by decide) rfl ?_
  refine V_drop (lv' := [(0, .ref (ad 0)), (1, .long (1193 : Int64)), (3, .int (0 : Int32))]) [2, 1, 0] rfl ?_
  obtain ⟨n0, h⟩ := h
  exact L6  n0 (1193 : Int64) (0 : Int32) M h 
