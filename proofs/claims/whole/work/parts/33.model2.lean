def w_X12_endsAt (x1 : Int32) (x2 : Int32) (M : Mm) (post : Int32 → Mm → Prop) : Prop :=
  (vp_in x1 7) ∧ ((((M.1 1 x1.toNatClampNeg) = x2) → (post (1 : Int32) M)) ∧ ((¬ (M.1 1 x1.toNatClampNeg) = x2) → (((¬ (M.1 2 x1.toNatClampNeg) = x2) → (post (0 : Int32) M)) ∧ (((M.1 2 x1.toNatClampNeg) = x2) → (post (1 : Int32) M)))))
theorem iw_X12_endsAt_X12 : ∀ w ∈ u_ws RX12 TX12 49, w ∈ wsX12_endsAt := by decide +kernel
theorem m_X12_endsAt_f7 : Cond.fieldLink RX12 7 "ShameYardsModel" "oneEnd" "[I" ∈ wsX12_endsAt := by decide +kernel
theorem m_X12_endsAt_f13 : Cond.fieldLink RX12 13 "ShameYardsModel" "otherEnd" "[I" ∈ wsX12_endsAt := by decide +kernel
set_option maxHeartbeats 4000000 in
set_option maxRecDepth 100000 in
theorem c_X12_endsAt (l : Launch) (D : va_G) (cy : Nat → ClassId) (ad : Nat → Nat) (A : Nat → Prop) (G : Gd A ad nsM)   (x1 : Int32) (x2 : Int32) (M : Mm) (post : Int32 → Mm → Prop) (h : w_X12_endsAt x1 x2 M post) : CI l yX12_endsAt wsX12_endsAt (rmL 2) D (tysC cy) A ad nsM (ceM ad cy) ExM [.ref (ad 0), .int x1, .int x2] M (fun r M' => (r = 0 ∨ r = 1) ∧ post r M') := by
  refine Met_V (cc := cX12_endsAt) (maxL := 3) (ret := (some .boolean)) (by decide) rfl G Lo_M ExM_ok (Nat.le_of_ble_eq_true rfl) rfl ?_
  intro p e s m args below meth c C hr hlk
  have C : Cx p s m args c cX12_endsAt 3 RX12 wsX12_endsAt D (tysC cy) A ad nsM (ceM ad cy) ExM := C
  unfold w_X12_endsAt at h
  refine V_aload_n C 0 dX12_endsAt_0 rfl ?_
  refine V_get (k0 := 4) (Cn := RX12) (T := TX12) (N := 49) C (nsM_mem (by decide)) rfl iw_X12_endsAt_X12 (by decide) rfl m_X12_endsAt_f7 (ceM_0 _) rfl dX12_endsAt_1 ?_
  refine V_iload_n C 1 dX12_endsAt_4 rfl ?_
  have g1 := h.1
  have h := h.2
  refine V_iald (t0 := 1) (L := 7) C (nsM_mem (by decide)) (fun _ => rfl) rfl g1 dX12_endsAt_5 ?_
  refine V_iload_n C 2 dX12_endsAt_6 rfl ?_
  refine V_icmp_eq C 20 dX12_endsAt_7 (by decide) (fun q2 => ?_) (fun q2 => ?_)
  · have h := h.1 q2
    refine V_iconst (v := (1 : Int32)) C dX12_endsAt_20 (by decide) ?_
    refine V_goto C 25 dX12_endsAt_21 (by decide) ?_
    exact V_zret C hr hlk (Or.inr rfl) dX12_endsAt_25 h
  · have h := h.2 q2
    refine V_aload_n C 0 dX12_endsAt_10 rfl ?_
    refine V_get (k0 := 5) (Cn := RX12) (T := TX12) (N := 49) C (nsM_mem (by decide)) rfl iw_X12_endsAt_X12 (by decide) rfl m_X12_endsAt_f13 (ceM_0 _) rfl dX12_endsAt_11 ?_
    refine V_iload_n C 1 dX12_endsAt_14 rfl ?_
    refine V_iald (t0 := 1) (L := 7) C (nsM_mem (by decide)) (fun _ => rfl) rfl g1 dX12_endsAt_15 ?_
    refine V_iload_n C 2 dX12_endsAt_16 rfl ?_
    refine V_icmp_ne C 24 dX12_endsAt_17 (by decide) (fun q3 => ?_) (fun q3 => ?_)
    · have h := h.1 q3
      refine V_iconst (v := (0 : Int32)) C dX12_endsAt_24 (by decide) ?_
      exact V_zret C hr hlk (Or.inl rfl) dX12_endsAt_25 h
    · have h := h.2 q3
      refine V_iconst (v := (1 : Int32)) C dX12_endsAt_20 (by decide) ?_
      refine V_goto C 25 dX12_endsAt_21 (by decide) ?_
      exact V_zret C hr hlk (Or.inr rfl) dX12_endsAt_25 h
def w_X12_beyond (x1 : Int32) (x2 : Int32) (M : Mm) (post : Int32 → Mm → Prop) : Prop :=
  (vp_in x1 7) ∧ (((¬ (M.1 1 x1.toNatClampNeg) = x2) → (post (M.1 1 x1.toNatClampNeg) M)) ∧ (((M.1 1 x1.toNatClampNeg) = x2) → (post (M.1 2 x1.toNatClampNeg) M)))
theorem iw_X12_beyond_X12 : ∀ w ∈ u_ws RX12 TX12 49, w ∈ wsX12_beyond := by decide +kernel
theorem m_X12_beyond_f7 : Cond.fieldLink RX12 7 "ShameYardsModel" "oneEnd" "[I" ∈ wsX12_beyond := by decide +kernel
theorem m_X12_beyond_f13 : Cond.fieldLink RX12 13 "ShameYardsModel" "otherEnd" "[I" ∈ wsX12_beyond := by decide +kernel
set_option maxHeartbeats 4000000 in
set_option maxRecDepth 100000 in
theorem c_X12_beyond (l : Launch) (D : va_G) (cy : Nat → ClassId) (ad : Nat → Nat) (A : Nat → Prop) (G : Gd A ad nsM)   (x1 : Int32) (x2 : Int32) (M : Mm) (post : Int32 → Mm → Prop) (h : w_X12_beyond x1 x2 M post) : CI l yX12_beyond wsX12_beyond (rmL 2) D (tysC cy) A ad nsM (ceM ad cy) ExM [.ref (ad 0), .int x1, .int x2] M post := by
  refine Met_V (cc := cX12_beyond) (maxL := 3) (ret := (some .int)) (by decide) rfl G Lo_M ExM_ok (Nat.le_of_ble_eq_true rfl) rfl ?_
  intro p e s m args below meth c C hr hlk
  have C : Cx p s m args c cX12_beyond 3 RX12 wsX12_beyond D (tysC cy) A ad nsM (ceM ad cy) ExM := C
  unfold w_X12_beyond at h
  refine V_aload_n C 0 dX12_beyond_0 rfl ?_
  refine V_get (k0 := 4) (Cn := RX12) (T := TX12) (N := 49) C (nsM_mem (by decide)) rfl iw_X12_beyond_X12 (by decide) rfl m_X12_beyond_f7 (ceM_0 _) rfl dX12_beyond_1 ?_
  refine V_iload_n C 1 dX12_beyond_4 rfl ?_
  have g1 := h.1
  have h := h.2
  refine V_iald (t0 := 1) (L := 7) C (nsM_mem (by decide)) (fun _ => rfl) rfl g1 dX12_beyond_5 ?_
  refine V_iload_n C 2 dX12_beyond_6 rfl ?_
  refine V_icmp_ne C 19 dX12_beyond_7 (by decide) (fun q2 => ?_) (fun q2 => ?_)
  · have h := h.1 q2
    refine V_aload_n C 0 dX12_beyond_19 rfl ?_
    refine V_get (k0 := 4) (Cn := RX12) (T := TX12) (N := 49) C (nsM_mem (by decide)) rfl iw_X12_beyond_X12 (by decide) rfl m_X12_beyond_f7 (ceM_0 _) rfl dX12_beyond_20 ?_
    refine V_iload_n C 1 dX12_beyond_23 rfl ?_
    refine V_iald (t0 := 1) (L := 7) C (nsM_mem (by decide)) (fun _ => rfl) rfl g1 dX12_beyond_24 ?_
    exact V_iret C hr hlk dX12_beyond_25 h
  · have h := h.2 q2
    refine V_aload_n C 0 dX12_beyond_10 rfl ?_
    refine V_get (k0 := 5) (Cn := RX12) (T := TX12) (N := 49) C (nsM_mem (by decide)) rfl iw_X12_beyond_X12 (by decide) rfl m_X12_beyond_f13 (ceM_0 _) rfl dX12_beyond_11 ?_
    refine V_iload_n C 1 dX12_beyond_14 rfl ?_
    refine V_iald (t0 := 1) (L := 7) C (nsM_mem (by decide)) (fun _ => rfl) rfl g1 dX12_beyond_15 ?_
    refine V_goto C 25 dX12_beyond_16 (by decide) ?_
    exact V_iret C hr hlk dX12_beyond_25 h
def w_X12_isTired (x1 : Int32) (M : Mm) (post : Int32 → Mm → Prop) : Prop :=
  ((x1 = (-1 : Int32)) → (post (0 : Int32) M)) ∧ ((¬ x1 = (-1 : Int32)) → ((vp_in x1 5) ∧ ((((M.1 8 x1.toNatClampNeg) ≤ (9000 : Int32)) → (post (0 : Int32) M)) ∧ ((¬ (M.1 8 x1.toNatClampNeg) ≤ (9000 : Int32)) → (post (1 : Int32) M)))))
theorem iw_X12_isTired_X12 : ∀ w ∈ u_ws RX12 TX12 49, w ∈ wsX12_isTired := by decide +kernel
theorem m_X12_isTired_f31 : Cond.fieldLink RX12 31 "ShameYardsModel" "tookOf" "[I" ∈ wsX12_isTired := by decide +kernel
set_option maxHeartbeats 4000000 in
set_option maxRecDepth 100000 in
theorem c_X12_isTired (l : Launch) (D : va_G) (cy : Nat → ClassId) (ad : Nat → Nat) (A : Nat → Prop) (G : Gd A ad nsM)   (x1 : Int32) (M : Mm) (post : Int32 → Mm → Prop) (h : w_X12_isTired x1 M post) : CI l yX12_isTired wsX12_isTired (rmL 2) D (tysC cy) A ad nsM (ceM ad cy) ExM [.ref (ad 0), .int x1] M (fun r M' => (r = 0 ∨ r = 1) ∧ post r M') := by
  refine Met_V (cc := cX12_isTired) (maxL := 2) (ret := (some .boolean)) (by decide) rfl G Lo_M ExM_ok (Nat.le_of_ble_eq_true rfl) rfl ?_
  intro p e s m args below meth c C hr hlk
  have C : Cx p s m args c cX12_isTired 2 RX12 wsX12_isTired D (tysC cy) A ad nsM (ceM ad cy) ExM := C
  unfold w_X12_isTired at h
  refine V_iload_n C 1 dX12_isTired_0 rfl ?_
  refine V_iconst (v := (-1 : Int32)) C dX12_isTired_1 (by decide) ?_
  refine V_icmp_eq C 21 dX12_isTired_2 (by decide) (fun q1 => ?_) (fun q1 => ?_)
  · have h := h.1 q1
    refine V_iconst (v := (0 : Int32)) C dX12_isTired_21 (by decide) ?_
    exact V_zret C hr hlk (Or.inl rfl) dX12_isTired_22 h
  · have h := h.2 q1
    refine V_aload_n C 0 dX12_isTired_5 rfl ?_
    refine V_get (k0 := 11) (Cn := RX12) (T := TX12) (N := 49) C (nsM_mem (by decide)) rfl iw_X12_isTired_X12 (by decide) rfl m_X12_isTired_f31 (ceM_0 _) rfl dX12_isTired_6 ?_
    refine V_iload_n C 1 dX12_isTired_9 rfl ?_
    have g2 := h.1
    have h := h.2
    refine V_iald (t0 := 1) (L := 5) C (nsM_mem (by decide)) (fun _ => rfl) rfl g2 dX12_isTired_10 ?_
    refine V_sipush (v := (9000 : Int32)) C dX12_isTired_11 (by decide) ?_
    refine V_icmp_le C 21 dX12_isTired_14 (by decide) (fun q3 => ?_) (fun q3 => ?_)
    · have h := h.1 q3
      refine V_iconst (v := (0 : Int32)) C dX12_isTired_21 (by decide) ?_
      exact V_zret C hr hlk (Or.inl rfl) dX12_isTired_22 h
    · have h := h.2 q3
      refine V_iconst (v := (1 : Int32)) C dX12_isTired_17 (by decide) ?_
      refine V_goto C 22 dX12_isTired_18 (by decide) ?_
      exact V_zret C hr hlk (Or.inr rfl) dX12_isTired_22 h
def w_X12_go_65  (post : Int32 → Mm → Prop)  (v1 : Int32) (v2 : Int32) (v3 : Int32) (v4 : Int32) (M : Mm) : Prop :=
    w_X12_isTired v1 M (fun r1 M2 => ((¬ r1 = 0) → (post (-104 : Int32) M2)) ∧ ((r1 = 0) → (w_X12_isTired v3 M2 (fun r5 M6 => ((r5 = 0) → (w_X12_stepsOf v1 v2 v3 M6 (fun r9 M10 => (vp_in v1 5) ∧ (∀ M13 : Mm, M13 = wI M10 8 (upd (M10.1 8) v1.toNatClampNeg ((M10.1 8 v1.toNatClampNeg) + r9)) → (w_X12_beyond v2 v4 M13 (fun r15 M16 => ∀ M18 : Mm, M18 = wI M16 7 (upd (M16.1 7) v1.toNatClampNeg r15) → (((v3 = (-1 : Int32)) → (post r9 M18)) ∧ ((¬ v3 = (-1 : Int32)) → ((vp_in v3 5) ∧ (∀ M22 : Mm, M22 = wI M18 8 (upd (M18.1 8) v3.toNatClampNeg ((M18.1 8 v3.toNatClampNeg) + r9)) → (w_X12_beyond v2 v4 M22 (fun r24 M25 => ∀ M27 : Mm, M27 = wI M25 7 (upd (M25.1 7) v3.toNatClampNeg r24) → (∀ M29 : Mm, M29 = wI M27 0 (upd (M27.1 0) 12 ((M27.1 0 12) + (1 : Int32))) → (post r9 M29)))))))))))))) ∧ ((¬ r5 = 0) → (post (-104 : Int32) M6))))))
def w_X12_go (x1 : Int32) (x2 : Int32) (x3 : Int32) (M : Mm) (post : Int32 → Mm → Prop) : Prop :=
  w_X12_isPerson x1 M (fun r31 M32 => ((r31 = 0) → (post (-101 : Int32) M32)) ∧ ((¬ r31 = 0) → (w_X12_isPassage x2 M32 (fun r35 M36 => ((r35 = 0) → (post (-101 : Int32) M36)) ∧ ((¬ r35 = 0) → (w_X12_isWith x1 x3 M36 (fun r39 M40 => ((¬ r39 = 0) → ((vp_in x1 5) ∧ (w_X12_endsAt x2 (M40.1 7 x1.toNatClampNeg) M40 (fun r44 M45 => ((r44 = 0) → (post (-103 : Int32) M45)) ∧ ((¬ r44 = 0) → (((x3 = (-1 : Int32)) → (w_X12_go_65  post  x1 x2 x3 (M40.1 7 x1.toNatClampNeg) M45)) ∧ ((¬ x3 = (-1 : Int32)) → ((vp_in x3 5) ∧ ((((M45.1 7 x3.toNatClampNeg) = (M40.1 7 x1.toNatClampNeg)) → (w_X12_go_65  post  x1 x2 x3 (M40.1 7 x1.toNatClampNeg) M45)) ∧ ((¬ (M45.1 7 x3.toNatClampNeg) = (M40.1 7 x1.toNatClampNeg)) → (post (-103 : Int32) M45))))))))))) ∧ ((r39 = 0) → (post (-101 : Int32) M40)))))))))
theorem iw_X12_go_X12 : ∀ w ∈ u_ws RX12 TX12 49, w ∈ wsX12_go := by decide +kernel
theorem m_X12_go_f31 : Cond.fieldLink RX12 31 "ShameYardsModel" "tookOf" "[I" ∈ wsX12_go := by decide +kernel
theorem m_X12_go_f28 : Cond.fieldLink RX12 28 "ShameYardsModel" "roomOf" "[I" ∈ wsX12_go := by decide +kernel
theorem m_X12_go_f159 : Cond.fieldLink RX12 159 "ShameYardsModel" "together" "I" ∈ wsX12_go := by decide +kernel
set_option maxHeartbeats 4000000 in
set_option maxRecDepth 100000 in
theorem c_X12_go (l : Launch) (D : va_G) (cy : Nat → ClassId) (ad : Nat → Nat) (A : Nat → Prop) (G : Gd A ad nsM)   (x1 : Int32) (x2 : Int32) (x3 : Int32) (M : Mm) (post : Int32 → Mm → Prop) (h : w_X12_go x1 x2 x3 M post) : CI l yX12_go wsX12_go (rmL 5) D (tysC cy) A ad nsM (ceM ad cy) ExM [.ref (ad 0), .int x1, .int x2, .int x3] M post := by
  refine Met_V (cc := cX12_go) (maxL := 6) (ret := (some .int)) (by decide) rfl G Lo_M ExM_ok (Nat.le_of_ble_eq_true rfl) rfl ?_
  intro p e s m args below meth c C hr hlk
  have C : Cx p s m args c cX12_go 6 RX12 wsX12_go D (tysC cy) A ad nsM (ceM ad cy) ExM := C
  have L65 : ∀  (v1 : Int32) (v2 : Int32) (v3 : Int32) (v4 : Int32) (M : Mm), w_X12_go_65  post  v1 v2 v3 v4 M → V p l e (rmL 5) s m args below meth c (MQ below (va_Qi post (Wd D (tysC cy) ad nsM (ceM ad cy) ExM) A) args s 0 0 A) D A ad nsM (ceM ad cy) 6 M [(0, .ref (ad 0)), (1, .int v1), (2, .int v2), (3, .int v3), (4, .int v4)] 65 [] := by
    intro  v1 v2 v3 v4 M h 
    unfold w_X12_go_65 at h
    refine V_aload_n C 0 dX12_go_65 rfl ?_
    refine V_iload_n C 1 dX12_go_66 rfl ?_
    refine V_callVi (q := (RX12, TX12, 49)) (rest := []) C (nsM_mem (by decide)) (ceM_0 _) rfl (c_X12_isTired l D cy ad A G v1 M _ h) (cwV 1 C.1.2.2.2.2 gX12_go_X12_isTired rfl rfl rfl (by decide +kernel) ⟨by decide, by decide⟩) rfl rfl (Nat.le_of_ble_eq_true rfl) dX12_go_67 (fun r1 M2 h => ?_)
    obtain ⟨z3, h⟩ := h
    refine V_if_ne C 81 dX12_go_70 (by decide) (fun q4 => ?_) (fun q4 => ?_)
    · have h := h.1 q4
      refine V_bipush (v := (-104 : Int32)) C dX12_go_81 (by decide) ?_
      exact V_iret C hr hlk dX12_go_83 h
    · have h := h.2 q4
      refine V_aload_n C 0 dX12_go_73 rfl ?_
      refine V_iload_n C 3 dX12_go_74 rfl ?_
      refine V_callVi (q := (RX12, TX12, 49)) (rest := []) C (nsM_mem (by decide)) (ceM_0 _) rfl (c_X12_isTired l D cy ad A G v3 M2 _ h) (cwV 1 C.1.2.2.2.2 gX12_go_X12_isTired rfl rfl rfl (by decide +kernel) ⟨by decide, by decide⟩) rfl rfl (Nat.le_of_ble_eq_true rfl) dX12_go_75 (fun r5 M6 h => ?_)
      obtain ⟨z7, h⟩ := h
      refine V_if_eq C 84 dX12_go_78 (by decide) (fun q8 => ?_) (fun q8 => ?_)
      · have h := h.1 q8
        refine V_aload_n C 0 dX12_go_84 rfl ?_
        refine V_iload_n C 1 dX12_go_85 rfl ?_
        refine V_iload_n C 2 dX12_go_86 rfl ?_
        refine V_iload_n C 3 dX12_go_87 rfl ?_
        refine V_callVi (q := (RX12, TX12, 49)) (rest := []) C (nsM_mem (by decide)) (ceM_0 _) rfl (c_X12_stepsOf l D cy ad A G v1 v2 v3 M6 _ h) (cwV 3 C.1.2.2.2.2 gX12_go_X12_stepsOf rfl rfl rfl (by decide +kernel) ⟨by decide, by decide⟩) rfl rfl (Nat.le_of_ble_eq_true rfl) dX12_go_88 (fun r9 M10 h => ?_)
        refine V_istore (lv' := [(5, .int r9), (0, .ref (ad 0)), (1, .int v1), (2, .int v2), (3, .int v3), (4, .int v4)]) C dX12_go_91 (by decide) rfl ?_
        refine V_aload_n C 1 dX12_go_93 rfl ?_
        refine V_get (k0 := 11) (Cn := RX12) (T := TX12) (N := 49) C (nsM_mem (by decide)) rfl iw_X12_go_X12 (by decide) rfl m_X12_go_f31 (ceM_0 _) rfl dX12_go_94 ?_
        refine V_iload_n C 2 dX12_go_97 rfl ?_
        refine V_dup2 C dX12_go_98 rfl rfl ?_
        have g12 := h.1
        have h := h.2
        refine V_iald (t0 := 1) (L := 5) C (nsM_mem (by decide)) (fun _ => rfl) rfl g12 dX12_go_99 ?_
        refine V_iload C 0 dX12_go_100 rfl ?_
        refine V_iadd C dX12_go_102 ?_
        refine V_iast (t0 := 1) (L := 5) C (nsM_mem (by decide)) (fun _ => rfl) rfl g12 dX12_go_103 (fun M13 e14 => ?_)
        have h := h M13 e14
        refine V_aload_n C 1 dX12_go_104 rfl ?_
        refine V_get (k0 := 10) (Cn := RX12) (T := TX12) (N := 49) C (nsM_mem (by decide)) rfl iw_X12_go_X12 (by decide) rfl m_X12_go_f28 (ceM_0 _) rfl dX12_go_105 ?_
        refine V_iload_n C 2 dX12_go_108 rfl ?_
        refine V_aload_n C 1 dX12_go_109 rfl ?_
        refine V_iload_n C 3 dX12_go_110 rfl ?_
        refine V_iload C 5 dX12_go_111 rfl ?_
        refine V_callVi (q := (RX12, TX12, 49)) (rest := [.int v1, .ref (ad 7)]) C (nsM_mem (by decide)) (ceM_0 _) rfl (c_X12_beyond l D cy ad A G v2 v4 M13 _ h) (cwV 2 C.1.2.2.2.2 gX12_go_X12_beyond rfl rfl rfl (by decide +kernel) ⟨by decide, by decide⟩) rfl rfl (Nat.le_of_ble_eq_true rfl) dX12_go_113 (fun r15 M16 h => ?_)
        refine V_iast (t0 := 1) (L := 5) C (nsM_mem (by decide)) (fun _ => rfl) rfl g12 dX12_go_116 (fun M18 e19 => ?_)
        have h := h M18 e19
        refine V_iload_n C 4 dX12_go_117 rfl ?_
        refine V_iconst (v := (-1 : Int32)) C dX12_go_118 (by decide) ?_
        refine V_icmp_eq C 156 dX12_go_119 (by decide) (fun q20 => ?_) (fun q20 => ?_)
        · have h := h.1 q20
          refine V_iload C 0 dX12_go_156 rfl ?_
          exact V_iret C hr hlk dX12_go_158 h
        · have h := h.2 q20
          refine V_aload_n C 1 dX12_go_122 rfl ?_
          refine V_get (k0 := 11) (Cn := RX12) (T := TX12) (N := 49) C (nsM_mem (by decide)) rfl iw_X12_go_X12 (by decide) rfl m_X12_go_f31 (ceM_0 _) rfl dX12_go_123 ?_
          refine V_iload_n C 4 dX12_go_126 rfl ?_
          refine V_dup2 C dX12_go_127 rfl rfl ?_
          have g21 := h.1
          have h := h.2
          refine V_iald (t0 := 1) (L := 5) C (nsM_mem (by decide)) (fun _ => rfl) rfl g21 dX12_go_128 ?_
          refine V_iload C 0 dX12_go_129 rfl ?_
          refine V_iadd C dX12_go_131 ?_
          refine V_iast (t0 := 1) (L := 5) C (nsM_mem (by decide)) (fun _ => rfl) rfl g21 dX12_go_132 (fun M22 e23 => ?_)
          have h := h M22 e23
          refine V_aload_n C 1 dX12_go_133 rfl ?_
          refine V_get (k0 := 10) (Cn := RX12) (T := TX12) (N := 49) C (nsM_mem (by decide)) rfl iw_X12_go_X12 (by decide) rfl m_X12_go_f28 (ceM_0 _) rfl dX12_go_134 ?_
          refine V_iload_n C 4 dX12_go_137 rfl ?_
          refine V_aload_n C 1 dX12_go_138 rfl ?_
          refine V_iload_n C 3 dX12_go_139 rfl ?_
          refine V_iload C 5 dX12_go_140 rfl ?_
          refine V_callVi (q := (RX12, TX12, 49)) (rest := [.int v3, .ref (ad 7)]) C (nsM_mem (by decide)) (ceM_0 _) rfl (c_X12_beyond l D cy ad A G v2 v4 M22 _ h) (cwV 2 C.1.2.2.2.2 gX12_go_X12_beyond rfl rfl rfl (by decide +kernel) ⟨by decide, by decide⟩) rfl rfl (Nat.le_of_ble_eq_true rfl) dX12_go_142 (fun r24 M25 h => ?_)
          refine V_iast (t0 := 1) (L := 5) C (nsM_mem (by decide)) (fun _ => rfl) rfl g21 dX12_go_145 (fun M27 e28 => ?_)
          have h := h M27 e28
          refine V_aload_n C 1 dX12_go_146 rfl ?_
          refine V_dup C dX12_go_147 rfl ?_
          refine V_get (k0 := 12) (Cn := RX12) (T := TX12) (N := 49) C (nsM_mem (by decide)) rfl iw_X12_go_X12 (by decide) rfl m_X12_go_f159 (ceM_0 _) rfl dX12_go_148 ?_
          refine V_iconst (v := (1 : Int32)) C dX12_go_151 (by decide) ?_
          refine V_iadd C dX12_go_152 ?_
          refine V_putI (k0 := 12) (Cn := RX12) (T := TX12) (N := 49) C (nsM_mem (by decide)) rfl iw_X12_go_X12 (by decide) rfl m_X12_go_f159 tyX12_ok nmX12 rfl (show _ = some FieldType.int by decide +kernel) rfl rfl (Nat.le_of_ble_eq_true rfl) (ceM_0 _) (stM0_12  _ _) dX12_go_153 (fun M29 e30 => ?_)
          have h := h M29 e30
          refine V_iload C 0 dX12_go_156 rfl ?_
          exact V_iret C hr hlk dX12_go_158 h
      · have h := h.2 q8
        refine V_bipush (v := (-104 : Int32)) C dX12_go_81 (by decide) ?_
        exact V_iret C hr hlk dX12_go_83 h
  unfold w_X12_go at h
  refine V_aload_n C 0 dX12_go_0 rfl ?_
  refine V_iload_n C 1 dX12_go_1 rfl ?_
  refine V_callVi (q := (RX12, TX12, 49)) (rest := []) C (nsM_mem (by decide)) (ceM_0 _) rfl (c_X12_isPerson l D cy ad A G x1 M _ h) (cwV 1 C.1.2.2.2.2 gX12_go_X12_isPerson rfl rfl rfl (by decide +kernel) ⟨by decide, by decide⟩) rfl rfl (Nat.le_of_ble_eq_true rfl) dX12_go_2 (fun r31 M32 h => ?_)
  obtain ⟨z33, h⟩ := h
  refine V_if_eq C 25 dX12_go_5 (by decide) (fun q34 => ?_) (fun q34 => ?_)
  · have h := h.1 q34
    refine V_bipush (v := (-101 : Int32)) C dX12_go_25 (by decide) ?_
    exact V_iret C hr hlk dX12_go_27 h
  · have h := h.2 q34
    refine V_aload_n C 0 dX12_go_8 rfl ?_
    refine V_iload_n C 2 dX12_go_9 rfl ?_
    refine V_callVi (q := (RX12, TX12, 49)) (rest := []) C (nsM_mem (by decide)) (ceM_0 _) rfl (c_X12_isPassage l D cy ad A G x2 M32 _ h) (cwV 1 C.1.2.2.2.2 gX12_go_X12_isPassage rfl rfl rfl (by decide +kernel) ⟨by decide, by decide⟩) rfl rfl (Nat.le_of_ble_eq_true rfl) dX12_go_10 (fun r35 M36 h => ?_)
    obtain ⟨z37, h⟩ := h
    refine V_if_eq C 25 dX12_go_13 (by decide) (fun q38 => ?_) (fun q38 => ?_)
    · have h := h.1 q38
      refine V_bipush (v := (-101 : Int32)) C dX12_go_25 (by decide) ?_
      exact V_iret C hr hlk dX12_go_27 h
    · have h := h.2 q38
      refine V_aload_n C 0 dX12_go_16 rfl ?_
      refine V_iload_n C 1 dX12_go_17 rfl ?_
      refine V_iload_n C 3 dX12_go_18 rfl ?_
      refine V_callVi (q := (RX12, TX12, 49)) (rest := []) C (nsM_mem (by decide)) (ceM_0 _) rfl (c_X12_isWith l D cy ad A G x1 x3 M36 _ h) (cwV 2 C.1.2.2.2.2 gX12_go_X12_isWith rfl rfl rfl (by decide +kernel) ⟨by decide, by decide⟩) rfl rfl (Nat.le_of_ble_eq_true rfl) dX12_go_19 (fun r39 M40 h => ?_)
      obtain ⟨z41, h⟩ := h
      refine V_if_ne C 28 dX12_go_22 (by decide) (fun q42 => ?_) (fun q42 => ?_)
      · have h := h.1 q42
        refine V_aload_n C 0 dX12_go_28 rfl ?_
        refine V_get (k0 := 10) (Cn := RX12) (T := TX12) (N := 49) C (nsM_mem (by decide)) rfl iw_X12_go_X12 (by decide) rfl m_X12_go_f28 (ceM_0 _) rfl dX12_go_29 ?_
        refine V_iload_n C 1 dX12_go_32 rfl ?_
        have g43 := h.1
        have h := h.2
        refine V_iald (t0 := 1) (L := 5) C (nsM_mem (by decide)) (fun _ => rfl) rfl g43 dX12_go_33 ?_
        refine V_istore (lv' := [(4, .int (M40.1 7 x1.toNatClampNeg)), (0, .ref (ad 0)), (1, .int x1), (2, .int x2), (3, .int x3)]) C dX12_go_34 (by decide) rfl ?_
        refine V_aload_n C 1 dX12_go_36 rfl ?_
        refine V_iload_n C 3 dX12_go_37 rfl ?_
        refine V_iload C 0 dX12_go_38 rfl ?_
        refine V_callVi (q := (RX12, TX12, 49)) (rest := []) C (nsM_mem (by decide)) (ceM_0 _) rfl (c_X12_endsAt l D cy ad A G x2 (M40.1 7 x1.toNatClampNeg) M40 _ h) (cwV 2 C.1.2.2.2.2 gX12_go_X12_endsAt rfl rfl rfl (by decide +kernel) ⟨by decide, by decide⟩) rfl rfl (Nat.le_of_ble_eq_true rfl) dX12_go_40 (fun r44 M45 h => ?_)
        obtain ⟨z46, h⟩ := h
        refine V_if_eq C 62 dX12_go_43 (by decide) (fun q47 => ?_) (fun q47 => ?_)
        · have h := h.1 q47
          refine V_bipush (v := (-103 : Int32)) C dX12_go_62 (by decide) ?_
          exact V_iret C hr hlk dX12_go_64 h
        · have h := h.2 q47
          refine V_iload_n C 4 dX12_go_46 rfl ?_
          refine V_iconst (v := (-1 : Int32)) C dX12_go_47 (by decide) ?_
          refine V_icmp_eq C 65 dX12_go_48 (by decide) (fun q48 => ?_) (fun q48 => ?_)
          · have h := h.1 q48
            refine V_drop (lv' := [(0, .ref (ad 0)), (1, .int x1), (2, .int x2), (3, .int x3), (4, .int (M40.1 7 x1.toNatClampNeg))]) [1, 2, 3, 4, 0] rfl ?_
            exact L65  x1 x2 x3 (M40.1 7 x1.toNatClampNeg) M45 h 
          · have h := h.2 q48
            refine V_aload_n C 1 dX12_go_51 rfl ?_
            refine V_get (k0 := 10) (Cn := RX12) (T := TX12) (N := 49) C (nsM_mem (by decide)) rfl iw_X12_go_X12 (by decide) rfl m_X12_go_f28 (ceM_0 _) rfl dX12_go_52 ?_
            refine V_iload_n C 4 dX12_go_55 rfl ?_
            have g49 := h.1
            have h := h.2
            refine V_iald (t0 := 1) (L := 5) C (nsM_mem (by decide)) (fun _ => rfl) rfl g49 dX12_go_56 ?_
            refine V_iload C 0 dX12_go_57 rfl ?_
            refine V_icmp_eq C 65 dX12_go_59 (by decide) (fun q50 => ?_) (fun q50 => ?_)
            · have h := h.1 q50
              refine V_drop (lv' := [(0, .ref (ad 0)), (1, .int x1), (2, .int x2), (3, .int x3), (4, .int (M40.1 7 x1.toNatClampNeg))]) [1, 2, 3, 4, 0] rfl ?_
              exact L65  x1 x2 x3 (M40.1 7 x1.toNatClampNeg) M45 h 
            · have h := h.2 q50
              refine V_bipush (v := (-103 : Int32)) C dX12_go_62 (by decide) ?_
              exact V_iret C hr hlk dX12_go_64 h
      · have h := h.2 q42
        refine V_bipush (v := (-101 : Int32)) C dX12_go_25 (by decide) ?_
        exact V_iret C hr hlk dX12_go_27 h
def w_X12_sin (x1 : Int32) (M : Mm) (post : Int32 → Mm → Prop) : Prop :=
  w_X12_isPerson x1 M (fun r1 M2 => ((¬ r1 = 0) → ((vp_in x1 5) ∧ (((¬ (M2.1 5 x1.toNatClampNeg) = (9 : Int32)) → (∀ M7 : Mm, M7 = wI M2 5 (upd (M2.1 5) x1.toNatClampNeg ((M2.1 5 x1.toNatClampNeg) + (1 : Int32))) → (post (M7.1 5 x1.toNatClampNeg) M7))) ∧ (((M2.1 5 x1.toNatClampNeg) = (9 : Int32)) → (post (-104 : Int32) M2))))) ∧ ((r1 = 0) → (post (-101 : Int32) M2)))
theorem iw_X12_sin_X12 : ∀ w ∈ u_ws RX12 TX12 49, w ∈ wsX12_sin := by decide +kernel
theorem m_X12_sin_f22 : Cond.fieldLink RX12 22 "ShameYardsModel" "deedsOf" "[I" ∈ wsX12_sin := by decide +kernel
set_option maxHeartbeats 4000000 in
set_option maxRecDepth 100000 in
theorem c_X12_sin (l : Launch) (D : va_G) (cy : Nat → ClassId) (ad : Nat → Nat) (A : Nat → Prop) (G : Gd A ad nsM)   (x1 : Int32) (M : Mm) (post : Int32 → Mm → Prop) (h : w_X12_sin x1 M post) : CI l yX12_sin wsX12_sin (rmL 4) D (tysC cy) A ad nsM (ceM ad cy) ExM [.ref (ad 0), .int x1] M post := by
  refine Met_V (cc := cX12_sin) (maxL := 2) (ret := (some .int)) (by decide) rfl G Lo_M ExM_ok (Nat.le_of_ble_eq_true rfl) rfl ?_
  intro p e s m args below meth c C hr hlk
  have C : Cx p s m args c cX12_sin 2 RX12 wsX12_sin D (tysC cy) A ad nsM (ceM ad cy) ExM := C
  unfold w_X12_sin at h
  refine V_aload_n C 0 dX12_sin_0 rfl ?_
  refine V_iload_n C 1 dX12_sin_1 rfl ?_
  refine V_callVi (q := (RX12, TX12, 49)) (rest := []) C (nsM_mem (by decide)) (ceM_0 _) rfl (c_X12_isPerson l D cy ad A G x1 M _ h) (cwV 1 C.1.2.2.2.2 gX12_sin_X12_isPerson rfl rfl rfl (by decide +kernel) ⟨by decide, by decide⟩) rfl rfl (Nat.le_of_ble_eq_true rfl) dX12_sin_2 (fun r1 M2 h => ?_)
  obtain ⟨z3, h⟩ := h
  refine V_if_ne C 11 dX12_sin_5 (by decide) (fun q4 => ?_) (fun q4 => ?_)
  · have h := h.1 q4
    refine V_aload_n C 0 dX12_sin_11 rfl ?_
    refine V_get (k0 := 8) (Cn := RX12) (T := TX12) (N := 49) C (nsM_mem (by decide)) rfl iw_X12_sin_X12 (by decide) rfl m_X12_sin_f22 (ceM_0 _) rfl dX12_sin_12 ?_
    refine V_iload_n C 1 dX12_sin_15 rfl ?_
    have g5 := h.1
    have h := h.2
    refine V_iald (t0 := 1) (L := 5) C (nsM_mem (by decide)) (fun _ => rfl) rfl g5 dX12_sin_16 ?_
    refine V_bipush (v := (9 : Int32)) C dX12_sin_17 (by decide) ?_
    refine V_icmp_ne C 25 dX12_sin_19 (by decide) (fun q6 => ?_) (fun q6 => ?_)
    · have h := h.1 q6
      refine V_aload_n C 0 dX12_sin_25 rfl ?_
      refine V_get (k0 := 8) (Cn := RX12) (T := TX12) (N := 49) C (nsM_mem (by decide)) rfl iw_X12_sin_X12 (by decide) rfl m_X12_sin_f22 (ceM_0 _) rfl dX12_sin_26 ?_
      refine V_iload_n C 1 dX12_sin_29 rfl ?_
      refine V_dup2 C dX12_sin_30 rfl rfl ?_
      refine V_iald (t0 := 1) (L := 5) C (nsM_mem (by decide)) (fun _ => rfl) rfl g5 dX12_sin_31 ?_
      refine V_iconst (v := (1 : Int32)) C dX12_sin_32 (by decide) ?_
      refine V_iadd C dX12_sin_33 ?_
      refine V_iast (t0 := 1) (L := 5) C (nsM_mem (by decide)) (fun _ => rfl) rfl g5 dX12_sin_34 (fun M7 e8 => ?_)
      have h := h M7 e8
      refine V_aload_n C 0 dX12_sin_35 rfl ?_
      refine V_get (k0 := 8) (Cn := RX12) (T := TX12) (N := 49) C (nsM_mem (by decide)) rfl iw_X12_sin_X12 (by decide) rfl m_X12_sin_f22 (ceM_0 _) rfl dX12_sin_36 ?_
      refine V_iload_n C 1 dX12_sin_39 rfl ?_
      refine V_iald (t0 := 1) (L := 5) C (nsM_mem (by decide)) (fun _ => rfl) rfl g5 dX12_sin_40 ?_
      exact V_iret C hr hlk dX12_sin_41 h
    · have h := h.2 q6
      refine V_bipush (v := (-104 : Int32)) C dX12_sin_22 (by decide) ?_
      exact V_iret C hr hlk dX12_sin_24 h
  · have h := h.2 q4
    refine V_bipush (v := (-101 : Int32)) C dX12_sin_8 (by decide) ?_
    exact V_iret C hr hlk dX12_sin_10 h
def w_X12_lie (x1 : Int32) (M : Mm) (post : Int32 → Mm → Prop) : Prop :=
  w_X12_isPerson x1 M (fun r1 M2 => ((¬ r1 = 0) → ((vp_in x1 5) ∧ (((¬ (M2.1 6 x1.toNatClampNeg) = (9 : Int32)) → (∀ M7 : Mm, M7 = wI M2 6 (upd (M2.1 6) x1.toNatClampNeg ((M2.1 6 x1.toNatClampNeg) + (1 : Int32))) → (post (M7.1 6 x1.toNatClampNeg) M7))) ∧ (((M2.1 6 x1.toNatClampNeg) = (9 : Int32)) → (post (-104 : Int32) M2))))) ∧ ((r1 = 0) → (post (-101 : Int32) M2)))
theorem iw_X12_lie_X12 : ∀ w ∈ u_ws RX12 TX12 49, w ∈ wsX12_lie := by decide +kernel
theorem m_X12_lie_f25 : Cond.fieldLink RX12 25 "ShameYardsModel" "liesOf" "[I" ∈ wsX12_lie := by decide +kernel
set_option maxHeartbeats 4000000 in
set_option maxRecDepth 100000 in
theorem c_X12_lie (l : Launch) (D : va_G) (cy : Nat → ClassId) (ad : Nat → Nat) (A : Nat → Prop) (G : Gd A ad nsM)   (x1 : Int32) (M : Mm) (post : Int32 → Mm → Prop) (h : w_X12_lie x1 M post) : CI l yX12_lie wsX12_lie (rmL 4) D (tysC cy) A ad nsM (ceM ad cy) ExM [.ref (ad 0), .int x1] M post := by
  refine Met_V (cc := cX12_lie) (maxL := 2) (ret := (some .int)) (by decide) rfl G Lo_M ExM_ok (Nat.le_of_ble_eq_true rfl) rfl ?_
  intro p e s m args below meth c C hr hlk
  have C : Cx p s m args c cX12_lie 2 RX12 wsX12_lie D (tysC cy) A ad nsM (ceM ad cy) ExM := C
  unfold w_X12_lie at h
  refine V_aload_n C 0 dX12_lie_0 rfl ?_
  refine V_iload_n C 1 dX12_lie_1 rfl ?_
  refine V_callVi (q := (RX12, TX12, 49)) (rest := []) C (nsM_mem (by decide)) (ceM_0 _) rfl (c_X12_isPerson l D cy ad A G x1 M _ h) (cwV 1 C.1.2.2.2.2 gX12_lie_X12_isPerson rfl rfl rfl (by decide +kernel) ⟨by decide, by decide⟩) rfl rfl (Nat.le_of_ble_eq_true rfl) dX12_lie_2 (fun r1 M2 h => ?_)
  obtain ⟨z3, h⟩ := h
  refine V_if_ne C 11 dX12_lie_5 (by decide) (fun q4 => ?_) (fun q4 => ?_)
  · have h := h.1 q4
    refine V_aload_n C 0 dX12_lie_11 rfl ?_
    refine V_get (k0 := 9) (Cn := RX12) (T := TX12) (N := 49) C (nsM_mem (by decide)) rfl iw_X12_lie_X12 (by decide) rfl m_X12_lie_f25 (ceM_0 _) rfl dX12_lie_12 ?_
    refine V_iload_n C 1 dX12_lie_15 rfl ?_
    have g5 := h.1
    have h := h.2
    refine V_iald (t0 := 1) (L := 5) C (nsM_mem (by decide)) (fun _ => rfl) rfl g5 dX12_lie_16 ?_
    refine V_bipush (v := (9 : Int32)) C dX12_lie_17 (by decide) ?_
    refine V_icmp_ne C 25 dX12_lie_19 (by decide) (fun q6 => ?_) (fun q6 => ?_)
    · have h := h.1 q6
      refine V_aload_n C 0 dX12_lie_25 rfl ?_
      refine V_get (k0 := 9) (Cn := RX12) (T := TX12) (N := 49) C (nsM_mem (by decide)) rfl iw_X12_lie_X12 (by decide) rfl m_X12_lie_f25 (ceM_0 _) rfl dX12_lie_26 ?_
      refine V_iload_n C 1 dX12_lie_29 rfl ?_
      refine V_dup2 C dX12_lie_30 rfl rfl ?_
      refine V_iald (t0 := 1) (L := 5) C (nsM_mem (by decide)) (fun _ => rfl) rfl g5 dX12_lie_31 ?_
      refine V_iconst (v := (1 : Int32)) C dX12_lie_32 (by decide) ?_
      refine V_iadd C dX12_lie_33 ?_
      refine V_iast (t0 := 1) (L := 5) C (nsM_mem (by decide)) (fun _ => rfl) rfl g5 dX12_lie_34 (fun M7 e8 => ?_)
      have h := h M7 e8
      refine V_aload_n C 0 dX12_lie_35 rfl ?_
      refine V_get (k0 := 9) (Cn := RX12) (T := TX12) (N := 49) C (nsM_mem (by decide)) rfl iw_X12_lie_X12 (by decide) rfl m_X12_lie_f25 (ceM_0 _) rfl dX12_lie_36 ?_
      refine V_iload_n C 1 dX12_lie_39 rfl ?_
      refine V_iald (t0 := 1) (L := 5) C (nsM_mem (by decide)) (fun _ => rfl) rfl g5 dX12_lie_40 ?_
      exact V_iret C hr hlk dX12_lie_41 h
    · have h := h.2 q6
      refine V_bipush (v := (-104 : Int32)) C dX12_lie_22 (by decide) ?_
      exact V_iret C hr hlk dX12_lie_24 h
  · have h := h.2 q4
    refine V_bipush (v := (-101 : Int32)) C dX12_lie_8 (by decide) ?_
    exact V_iret C hr hlk dX12_lie_10 h
def w_X12_confess (x1 : Int32) (M : Mm) (post : Int32 → Mm → Prop) : Prop :=
  w_X12_isPerson x1 M (fun r1 M2 => ((¬ r1 = 0) → ((vp_in x1 5) ∧ (((¬ (M2.1 5 x1.toNatClampNeg) = 0) → (∀ M7 : Mm, M7 = wI M2 5 (upd (M2.1 5) x1.toNatClampNeg ((M2.1 5 x1.toNatClampNeg) - (1 : Int32))) → (post (M7.1 5 x1.toNatClampNeg) M7))) ∧ (((M2.1 5 x1.toNatClampNeg) = 0) → (post (-103 : Int32) M2))))) ∧ ((r1 = 0) → (post (-101 : Int32) M2)))
theorem iw_X12_confess_X12 : ∀ w ∈ u_ws RX12 TX12 49, w ∈ wsX12_confess := by decide +kernel
theorem m_X12_confess_f22 : Cond.fieldLink RX12 22 "ShameYardsModel" "deedsOf" "[I" ∈ wsX12_confess := by decide +kernel
set_option maxHeartbeats 4000000 in
set_option maxRecDepth 100000 in
theorem c_X12_confess (l : Launch) (D : va_G) (cy : Nat → ClassId) (ad : Nat → Nat) (A : Nat → Prop) (G : Gd A ad nsM)   (x1 : Int32) (M : Mm) (post : Int32 → Mm → Prop) (h : w_X12_confess x1 M post) : CI l yX12_confess wsX12_confess (rmL 4) D (tysC cy) A ad nsM (ceM ad cy) ExM [.ref (ad 0), .int x1] M post := by
  refine Met_V (cc := cX12_confess) (maxL := 2) (ret := (some .int)) (by decide) rfl G Lo_M ExM_ok (Nat.le_of_ble_eq_true rfl) rfl ?_
  intro p e s m args below meth c C hr hlk
  have C : Cx p s m args c cX12_confess 2 RX12 wsX12_confess D (tysC cy) A ad nsM (ceM ad cy) ExM := C
  unfold w_X12_confess at h
  refine V_aload_n C 0 dX12_confess_0 rfl ?_
  refine V_iload_n C 1 dX12_confess_1 rfl ?_
  refine V_callVi (q := (RX12, TX12, 49)) (rest := []) C (nsM_mem (by decide)) (ceM_0 _) rfl (c_X12_isPerson l D cy ad A G x1 M _ h) (cwV 1 C.1.2.2.2.2 gX12_confess_X12_isPerson rfl rfl rfl (by decide +kernel) ⟨by decide, by decide⟩) rfl rfl (Nat.le_of_ble_eq_true rfl) dX12_confess_2 (fun r1 M2 h => ?_)
  obtain ⟨z3, h⟩ := h
  refine V_if_ne C 11 dX12_confess_5 (by decide) (fun q4 => ?_) (fun q4 => ?_)
  · have h := h.1 q4
    refine V_aload_n C 0 dX12_confess_11 rfl ?_
    refine V_get (k0 := 8) (Cn := RX12) (T := TX12) (N := 49) C (nsM_mem (by decide)) rfl iw_X12_confess_X12 (by decide) rfl m_X12_confess_f22 (ceM_0 _) rfl dX12_confess_12 ?_
    refine V_iload_n C 1 dX12_confess_15 rfl ?_
    have g5 := h.1
    have h := h.2
    refine V_iald (t0 := 1) (L := 5) C (nsM_mem (by decide)) (fun _ => rfl) rfl g5 dX12_confess_16 ?_
    refine V_if_ne C 23 dX12_confess_17 (by decide) (fun q6 => ?_) (fun q6 => ?_)
    · have h := h.1 q6
      refine V_aload_n C 0 dX12_confess_23 rfl ?_
      refine V_get (k0 := 8) (Cn := RX12) (T := TX12) (N := 49) C (nsM_mem (by decide)) rfl iw_X12_confess_X12 (by decide) rfl m_X12_confess_f22 (ceM_0 _) rfl dX12_confess_24 ?_
      refine V_iload_n C 1 dX12_confess_27 rfl ?_
      refine V_dup2 C dX12_confess_28 rfl rfl ?_
      refine V_iald (t0 := 1) (L := 5) C (nsM_mem (by decide)) (fun _ => rfl) rfl g5 dX12_confess_29 ?_
      refine V_iconst (v := (1 : Int32)) C dX12_confess_30 (by decide) ?_
      refine V_isub C dX12_confess_31 ?_
      refine V_iast (t0 := 1) (L := 5) C (nsM_mem (by decide)) (fun _ => rfl) rfl g5 dX12_confess_32 (fun M7 e8 => ?_)
      have h := h M7 e8
      refine V_aload_n C 0 dX12_confess_33 rfl ?_
      refine V_get (k0 := 8) (Cn := RX12) (T := TX12) (N := 49) C (nsM_mem (by decide)) rfl iw_X12_confess_X12 (by decide) rfl m_X12_confess_f22 (ceM_0 _) rfl dX12_confess_34 ?_
      refine V_iload_n C 1 dX12_confess_37 rfl ?_
      refine V_iald (t0 := 1) (L := 5) C (nsM_mem (by decide)) (fun _ => rfl) rfl g5 dX12_confess_38 ?_
      exact V_iret C hr hlk dX12_confess_39 h
    · have h := h.2 q6
      refine V_bipush (v := (-103 : Int32)) C dX12_confess_20 (by decide) ?_
      exact V_iret C hr hlk dX12_confess_22 h
  · have h := h.2 q4
    refine V_bipush (v := (-101 : Int32)) C dX12_confess_8 (by decide) ?_
    exact V_iret C hr hlk dX12_confess_10 h
def w_X12_carpet (x1 : Int32) (x2 : Int32) (M : Mm) (post : Int32 → Mm → Prop) : Prop :=
  w_X12_isPassage x1 M (fun r1 M2 => ((¬ r1 = 0) → (w_X12_within x2 (1 : Int32) (9 : Int32) M2 (fun r5 M6 => ((¬ r5 = 0) → ((vp_in x1 7) ∧ (∀ M10 : Mm, M10 = wI M6 3 (upd (M6.1 3) x1.toNatClampNeg x2) → (post (M6.1 3 x1.toNatClampNeg) M10)))) ∧ ((r5 = 0) → (post (-102 : Int32) M6))))) ∧ ((r1 = 0) → (post (-101 : Int32) M2)))
theorem iw_X12_carpet_X12 : ∀ w ∈ u_ws RX12 TX12 49, w ∈ wsX12_carpet := by decide +kernel
theorem m_X12_carpet_f16 : Cond.fieldLink RX12 16 "ShameYardsModel" "lengthOf" "[I" ∈ wsX12_carpet := by decide +kernel
set_option maxHeartbeats 4000000 in
set_option maxRecDepth 100000 in
theorem c_X12_carpet (l : Launch) (D : va_G) (cy : Nat → ClassId) (ad : Nat → Nat) (A : Nat → Prop) (G : Gd A ad nsM)   (x1 : Int32) (x2 : Int32) (M : Mm) (post : Int32 → Mm → Prop) (h : w_X12_carpet x1 x2 M post) : CI l yX12_carpet wsX12_carpet (rmL 4) D (tysC cy) A ad nsM (ceM ad cy) ExM [.ref (ad 0), .int x1, .int x2] M post := by
  refine Met_V (cc := cX12_carpet) (maxL := 4) (ret := (some .int)) (by decide) rfl G Lo_M ExM_ok (Nat.le_of_ble_eq_true rfl) rfl ?_
  intro p e s m args below meth c C hr hlk
  have C : Cx p s m args c cX12_carpet 4 RX12 wsX12_carpet D (tysC cy) A ad nsM (ceM ad cy) ExM := C
  unfold w_X12_carpet at h
  refine V_aload_n C 0 dX12_carpet_0 rfl ?_
  refine V_iload_n C 1 dX12_carpet_1 rfl ?_
  refine V_callVi (q := (RX12, TX12, 49)) (rest := []) C (nsM_mem (by decide)) (ceM_0 _) rfl (c_X12_isPassage l D cy ad A G x1 M _ h) (cwV 1 C.1.2.2.2.2 gX12_carpet_X12_isPassage rfl rfl rfl (by decide +kernel) ⟨by decide, by decide⟩) rfl rfl (Nat.le_of_ble_eq_true rfl) dX12_carpet_2 (fun r1 M2 h => ?_)
  obtain ⟨z3, h⟩ := h
  refine V_if_ne C 11 dX12_carpet_5 (by decide) (fun q4 => ?_) (fun q4 => ?_)
  · have h := h.1 q4
    refine V_iload_n C 2 dX12_carpet_11 rfl ?_
    refine V_iconst (v := (1 : Int32)) C dX12_carpet_12 (by decide) ?_
    refine V_bipush (v := (9 : Int32)) C dX12_carpet_13 (by decide) ?_
    refine V_callSi (rest := []) C (c_X12_within l D cy ad A G x2 (1 : Int32) (9 : Int32) M2 _ h) (va_cwS 3 C.1.2.2.2.2 gX12_carpet_X12_within rfl rfl rfl (by decide +kernel) ⟨by decide, by decide⟩) rfl rfl (Nat.le_of_ble_eq_true rfl) dX12_carpet_15 (fun r5 M6 h => ?_)
    obtain ⟨z7, h⟩ := h
    refine V_if_ne C 24 dX12_carpet_18 (by decide) (fun q8 => ?_) (fun q8 => ?_)
    · have h := h.1 q8
      refine V_aload_n C 0 dX12_carpet_24 rfl ?_
      refine V_get (k0 := 6) (Cn := RX12) (T := TX12) (N := 49) C (nsM_mem (by decide)) rfl iw_X12_carpet_X12 (by decide) rfl m_X12_carpet_f16 (ceM_0 _) rfl dX12_carpet_25 ?_
      refine V_iload_n C 1 dX12_carpet_28 rfl ?_
      have g9 := h.1
      have h := h.2
      refine V_iald (t0 := 1) (L := 7) C (nsM_mem (by decide)) (fun _ => rfl) rfl g9 dX12_carpet_29 ?_
      refine V_istore_n (lv' := [(3, .int (M6.1 3 x1.toNatClampNeg)), (0, .ref (ad 0)), (1, .int x1), (2, .int x2)]) C dX12_carpet_30 rfl (by decide) rfl ?_
      refine V_aload_n C 1 dX12_carpet_31 rfl ?_
      refine V_get (k0 := 6) (Cn := RX12) (T := TX12) (N := 49) C (nsM_mem (by decide)) rfl iw_X12_carpet_X12 (by decide) rfl m_X12_carpet_f16 (ceM_0 _) rfl dX12_carpet_32 ?_
      refine V_iload_n C 2 dX12_carpet_35 rfl ?_
      refine V_iload_n C 3 dX12_carpet_36 rfl ?_
      refine V_iast (t0 := 1) (L := 7) C (nsM_mem (by decide)) (fun _ => rfl) rfl g9 dX12_carpet_37 (fun M10 e11 => ?_)
      have h := h M10 e11
      refine V_iload_n C 0 dX12_carpet_38 rfl ?_
      exact V_iret C hr hlk dX12_carpet_39 h
    · have h := h.2 q8
      refine V_bipush (v := (-102 : Int32)) C dX12_carpet_21 (by decide) ?_
      exact V_iret C hr hlk dX12_carpet_23 h
  · have h := h.2 q4
    refine V_bipush (v := (-101 : Int32)) C dX12_carpet_8 (by decide) ?_
    exact V_iret C hr hlk dX12_carpet_10 h
def w_X12_layFar_128  (post : Mm → Prop) (k35 : Int32 → Int32 → Mm → Prop) (k46 : Int32 → Int32 → Int32 → Mm → Prop) (v1 : Int32) (v3 : Int32) (v4 : Int32) (v5 : Int32) (v6 : Int32) (v7 : Int32) (s1 : Int32) (s2 : Int32) (M : Mm) : Prop :=
    (vp_in s1 5) ∧ (∀ M2 : Mm, M2 = wI M 14 (upd (M.1 14) s1.toNatClampNeg s2) → ((vp_in v6 5) ∧ ((vp_in v7 5) ∧ ((((M2.1 14 v7.toNatClampNeg) ≤ ((M2.1 14 v6.toNatClampNeg) + v5)) → (∀ M7 : Mm, M7 = wI M2 14 (upd (M2.1 14) v7.toNatClampNeg (M2.1 14 v7.toNatClampNeg)) → (k46 v1 v3 (v4 + 1) M7))) ∧ ((¬ (M2.1 14 v7.toNatClampNeg) ≤ ((M2.1 14 v6.toNatClampNeg) + v5)) → (∀ M9 : Mm, M9 = wI M2 14 (upd (M2.1 14) v7.toNatClampNeg ((M2.1 14 v6.toNatClampNeg) + v5)) → (k46 v1 v3 (v4 + 1) M9)))))))
def w_X12_layFar_46  (post : Mm → Prop) (k35 : Int32 → Int32 → Mm → Prop) : Nat → Int32 → Int32 → Int32 → Mm → Prop
  | 0 => fun _ _ _ _ => False
  | n + 1 => fun v1 v3 v4 M =>
    (((M.1 0 2) ≤ v4) → (k35 v1 (v3 + 1) M)) ∧ ((¬ (M.1 0 2) ≤ v4) → (w_X12_alone v1 v4 M (fun r12 M13 => (vp_in v4 7) ∧ ((vp_in (M13.1 2 v4.toNatClampNeg) 5) ∧ ((vp_in (M13.1 1 v4.toNatClampNeg) 5) ∧ ((((M13.1 14 (M13.1 1 v4.toNatClampNeg).toNatClampNeg) ≤ ((M13.1 14 (M13.1 2 v4.toNatClampNeg).toNatClampNeg) + r12)) → (w_X12_layFar_128  post k35 (w_X12_layFar_46  post k35 n) v1 v3 v4 r12 (M13.1 1 v4.toNatClampNeg) (M13.1 2 v4.toNatClampNeg) (M13.1 1 v4.toNatClampNeg) (M13.1 14 (M13.1 1 v4.toNatClampNeg).toNatClampNeg) M13)) ∧ ((¬ (M13.1 14 (M13.1 1 v4.toNatClampNeg).toNatClampNeg) ≤ ((M13.1 14 (M13.1 2 v4.toNatClampNeg).toNatClampNeg) + r12)) → (w_X12_layFar_128  post k35 (w_X12_layFar_46  post k35 n) v1 v3 v4 r12 (M13.1 1 v4.toNatClampNeg) (M13.1 2 v4.toNatClampNeg) (M13.1 1 v4.toNatClampNeg) ((M13.1 14 (M13.1 2 v4.toNatClampNeg).toNatClampNeg) + r12) M13))))))))
def w_X12_layFar_35  (post : Mm → Prop)  : Nat → Int32 → Int32 → Mm → Prop
  | 0 => fun _ _ _ => False
  | n + 1 => fun v1 v3 M =>
    (((M.1 0 1) ≤ v3) → (post M)) ∧ ((¬ (M.1 0 1) ≤ v3) → (∃ n0 : Nat, w_X12_layFar_46  post (w_X12_layFar_35  post  n) n0 v1 v3 (0 : Int32) M))
def w_X12_layFar_2  (post : Mm → Prop)  : Nat → Int32 → Int32 → Int32 → Mm → Prop
  | 0 => fun _ _ _ _ => False
  | n + 1 => fun v1 v2 v3 M =>
    (((M.1 0 1) ≤ v3) → (∃ n0 : Nat, w_X12_layFar_35  post  n0 v1 (0 : Int32) M)) ∧ ((¬ (M.1 0 1) ≤ v3) → (((¬ v3 = v2) → ((vp_in v3 5) ∧ (∀ M23 : Mm, M23 = wI M 14 (upd (M.1 14) v3.toNatClampNeg (268435456 : Int32)) → (w_X12_layFar_2  post  n v1 v2 (v3 + 1) M23)))) ∧ ((v3 = v2) → ((vp_in v3 5) ∧ (∀ M26 : Mm, M26 = wI M 14 (upd (M.1 14) v3.toNatClampNeg (0 : Int32)) → (w_X12_layFar_2  post  n v1 v2 (v3 + 1) M26))))))
def w_X12_layFar (x1 : Int32) (x2 : Int32) (M : Mm) (post : Mm → Prop) : Prop :=
  ∃ n0 : Nat, w_X12_layFar_2  post  n0 x1 x2 (0 : Int32) M
theorem iw_X12_layFar_X12 : ∀ w ∈ u_ws RX12 TX12 49, w ∈ wsX12_layFar := by decide +kernel
theorem m_X12_layFar_f50 : Cond.fieldLink RX12 50 "ShameYardsModel" "farTo" "[I" ∈ wsX12_layFar := by decide +kernel
theorem m_X12_layFar_f153 : Cond.fieldLink RX12 153 "ShameYardsModel" "passages" "I" ∈ wsX12_layFar := by decide +kernel
theorem m_X12_layFar_f7 : Cond.fieldLink RX12 7 "ShameYardsModel" "oneEnd" "[I" ∈ wsX12_layFar := by decide +kernel
theorem m_X12_layFar_f13 : Cond.fieldLink RX12 13 "ShameYardsModel" "otherEnd" "[I" ∈ wsX12_layFar := by decide +kernel
theorem m_X12_layFar_f150 : Cond.fieldLink RX12 150 "ShameYardsModel" "rooms" "I" ∈ wsX12_layFar := by decide +kernel
theorem m_X12_layFar_c207 : Jvm.Cond.constant RX12 207 (268435456) ∈ wsX12_layFar := by decide +kernel
set_option maxHeartbeats 4000000 in
set_option maxRecDepth 100000 in
theorem c_X12_layFar (l : Launch) (D : va_G) (cy : Nat → ClassId) (ad : Nat → Nat) (A : Nat → Prop) (G : Gd A ad nsM)   (x1 : Int32) (x2 : Int32) (M : Mm) (post : Mm → Prop) (h : w_X12_layFar x1 x2 M post) : CV l yX12_layFar wsX12_layFar (rmL 3) D (tysC cy) A ad nsM (ceM ad cy) ExM [.ref (ad 0), .int x1, .int x2] M post := by
  refine Met_V (cc := cX12_layFar) (maxL := 8) (ret := none) (by decide) rfl G Lo_M ExM_ok (Nat.le_of_ble_eq_true rfl) rfl ?_
  intro p e s m args below meth c C hr hlk
  have C : Cx p s m args c cX12_layFar 8 RX12 wsX12_layFar D (tysC cy) A ad nsM (ceM ad cy) ExM := C
  have L128 : ∀ (k35 : Int32 → Int32 → Mm → Prop) (hk35 : ∀ (v1 : Int32) (v3 : Int32) (M : Mm), k35 v1 v3 M → V p l e (rmL 3) s m args below meth c (MQ below (va_Qv post (Wd D (tysC cy) ad nsM (ceM ad cy) ExM) A) args s 0 0 A) D A ad nsM (ceM ad cy) 8 M [(0, .ref (ad 0)), (1, .int v1), (3, .int v3)] 35 []) (k46 : Int32 → Int32 → Int32 → Mm → Prop) (hk46 : ∀ (v1 : Int32) (v3 : Int32) (v4 : Int32) (M : Mm), k46 v1 v3 v4 M → V p l e (rmL 3) s m args below meth c (MQ below (va_Qv post (Wd D (tysC cy) ad nsM (ceM ad cy) ExM) A) args s 0 0 A) D A ad nsM (ceM ad cy) 8 M [(0, .ref (ad 0)), (1, .int v1), (3, .int v3), (4, .int v4)] 46 []) (v1 : Int32) (v3 : Int32) (v4 : Int32) (v5 : Int32) (v6 : Int32) (v7 : Int32) (s1 : Int32) (s2 : Int32) (M : Mm), w_X12_layFar_128  post k35 k46 v1 v3 v4 v5 v6 v7 s1 s2 M → V p l e (rmL 3) s m args below meth c (MQ below (va_Qv post (Wd D (tysC cy) ad nsM (ceM ad cy) ExM) A) args s 0 0 A) D A ad nsM (ceM ad cy) 8 M [(0, .ref (ad 0)), (1, .int v1), (3, .int v3), (4, .int v4), (5, .int v5), (6, .int v6), (7, .int v7)] 128 [.int s2, .int s1, .ref (ad 14)] := by
    intro k35 hk35 k46 hk46 v1 v3 v4 v5 v6 v7 s1 s2 M h 
    unfold w_X12_layFar_128 at h
    have g1 := h.1
    have h := h.2
    refine V_iast (t0 := 1) (L := 5) C (nsM_mem (by decide)) (fun _ => rfl) rfl g1 dX12_layFar_128 (fun M2 e3 => ?_)
    have h := h M2 e3
    refine V_aload_n C 0 dX12_layFar_129 rfl ?_
    refine V_get (k0 := 24) (Cn := RX12) (T := TX12) (N := 49) C (nsM_mem (by decide)) rfl iw_X12_layFar_X12 (by decide) rfl m_X12_layFar_f50 (ceM_0 _) rfl dX12_layFar_130 ?_
    refine V_iload C 6 dX12_layFar_133 rfl ?_
    refine V_aload_n C 0 dX12_layFar_135 rfl ?_
    refine V_get (k0 := 24) (Cn := RX12) (T := TX12) (N := 49) C (nsM_mem (by decide)) rfl iw_X12_layFar_X12 (by decide) rfl m_X12_layFar_f50 (ceM_0 _) rfl dX12_layFar_136 ?_
    refine V_iload C 5 dX12_layFar_139 rfl ?_
    have g4 := h.1
    have h := h.2
    refine V_iald (t0 := 1) (L := 5) C (nsM_mem (by decide)) (fun _ => rfl) rfl g4 dX12_layFar_141 ?_
    refine V_iload C 4 dX12_layFar_142 rfl ?_
    refine V_iadd C dX12_layFar_144 ?_
    refine V_aload_n C 0 dX12_layFar_145 rfl ?_
    refine V_get (k0 := 24) (Cn := RX12) (T := TX12) (N := 49) C (nsM_mem (by decide)) rfl iw_X12_layFar_X12 (by decide) rfl m_X12_layFar_f50 (ceM_0 _) rfl dX12_layFar_146 ?_
    refine V_iload C 6 dX12_layFar_149 rfl ?_
    have g5 := h.1
    have h := h.2
    refine V_iald (t0 := 1) (L := 5) C (nsM_mem (by decide)) (fun _ => rfl) rfl g5 dX12_layFar_151 ?_
    refine V_icmp_ge C 168 dX12_layFar_152 (by decide) (fun q6 => ?_) (fun q6 => ?_)
    · have h := h.1 q6
      refine V_aload_n C 0 dX12_layFar_168 rfl ?_
      refine V_get (k0 := 24) (Cn := RX12) (T := TX12) (N := 49) C (nsM_mem (by decide)) rfl iw_X12_layFar_X12 (by decide) rfl m_X12_layFar_f50 (ceM_0 _) rfl dX12_layFar_169 ?_
      refine V_iload C 6 dX12_layFar_172 rfl ?_
      refine V_iald (t0 := 1) (L := 5) C (nsM_mem (by decide)) (fun _ => rfl) rfl g5 dX12_layFar_174 ?_
      refine V_iast (t0 := 1) (L := 5) C (nsM_mem (by decide)) (fun _ => rfl) rfl g5 dX12_layFar_175 (fun M7 e8 => ?_)
      have h := h M7 e8
      refine V_iinc (v := (v4 + 1)) (lv' := [(4, .int (v4 + 1)), (0, .ref (ad 0)), (1, .int v1), (3, .int v3), (5, .int v5), (6, .int v6), (7, .int v7)]) C 3 dX12_layFar_176 rfl rfl (by decide) rfl ?_
      refine V_goto C 46 dX12_layFar_179 (by decide) ?_
      refine V_drop (lv' := [(0, .ref (ad 0)), (1, .int v1), (3, .int v3), (4, .int (v4 + 1))]) [1, 2, 3, 0] rfl ?_
      exact hk46 v1 v3 (v4 + 1) M7 h 
    · have h := h.2 q6
      refine V_aload_n C 0 dX12_layFar_155 rfl ?_
      refine V_get (k0 := 24) (Cn := RX12) (T := TX12) (N := 49) C (nsM_mem (by decide)) rfl iw_X12_layFar_X12 (by decide) rfl m_X12_layFar_f50 (ceM_0 _) rfl dX12_layFar_156 ?_
      refine V_iload C 5 dX12_layFar_159 rfl ?_
      refine V_iald (t0 := 1) (L := 5) C (nsM_mem (by decide)) (fun _ => rfl) rfl g4 dX12_layFar_161 ?_
      refine V_iload C 4 dX12_layFar_162 rfl ?_
      refine V_iadd C dX12_layFar_164 ?_
      refine V_goto C 175 dX12_layFar_165 (by decide) ?_
      refine V_iast (t0 := 1) (L := 5) C (nsM_mem (by decide)) (fun _ => rfl) rfl g5 dX12_layFar_175 (fun M9 e10 => ?_)
      have h := h M9 e10
      refine V_iinc (v := (v4 + 1)) (lv' := [(4, .int (v4 + 1)), (0, .ref (ad 0)), (1, .int v1), (3, .int v3), (5, .int v5), (6, .int v6), (7, .int v7)]) C 3 dX12_layFar_176 rfl rfl (by decide) rfl ?_
      refine V_goto C 46 dX12_layFar_179 (by decide) ?_
      refine V_drop (lv' := [(0, .ref (ad 0)), (1, .int v1), (3, .int v3), (4, .int (v4 + 1))]) [1, 2, 3, 0] rfl ?_
      exact hk46 v1 v3 (v4 + 1) M9 h 
  have L46 : ∀ (k35 : Int32 → Int32 → Mm → Prop) (hk35 : ∀ (v1 : Int32) (v3 : Int32) (M : Mm), k35 v1 v3 M → V p l e (rmL 3) s m args below meth c (MQ below (va_Qv post (Wd D (tysC cy) ad nsM (ceM ad cy) ExM) A) args s 0 0 A) D A ad nsM (ceM ad cy) 8 M [(0, .ref (ad 0)), (1, .int v1), (3, .int v3)] 35 []) (n : Nat) (v1 : Int32) (v3 : Int32) (v4 : Int32) (M : Mm), w_X12_layFar_46  post k35 n v1 v3 v4 M → V p l e (rmL 3) s m args below meth c (MQ below (va_Qv post (Wd D (tysC cy) ad nsM (ceM ad cy) ExM) A) args s 0 0 A) D A ad nsM (ceM ad cy) 8 M [(0, .ref (ad 0)), (1, .int v1), (3, .int v3), (4, .int v4)] 46 [] := by
    intro k35 hk35 n
    induction n with
    | zero => intro v1 v3 v4 M h; exact h.elim
    | succ n ih =>
    intro v1 v3 v4 M h 
    unfold w_X12_layFar_46 at h
    refine V_iload C 3 dX12_layFar_46 rfl ?_
    refine V_aload_n C 0 dX12_layFar_48 rfl ?_
    refine V_get (k0 := 2) (Cn := RX12) (T := TX12) (N := 49) C (nsM_mem (by decide)) rfl iw_X12_layFar_X12 (by decide) rfl m_X12_layFar_f153 (ceM_0 _) rfl dX12_layFar_49 ?_
    refine V_icmp_ge C 182 dX12_layFar_52 (by decide) (fun q11 => ?_) (fun q11 => ?_)
    · have h := h.1 q11
      refine V_iinc (v := (v3 + 1)) (lv' := [(3, .int (v3 + 1)), (0, .ref (ad 0)), (1, .int v1), (4, .int v4)]) C 2 dX12_layFar_182 rfl rfl (by decide) rfl ?_
      refine V_goto C 35 dX12_layFar_185 (by decide) ?_
      refine V_drop (lv' := [(0, .ref (ad 0)), (1, .int v1), (3, .int (v3 + 1))]) [1, 2, 0] rfl ?_
      exact hk35 v1 (v3 + 1) M h 
    · have h := h.2 q11
      refine V_aload_n C 0 dX12_layFar_55 rfl ?_
      refine V_iload_n C 1 dX12_layFar_56 rfl ?_
      refine V_iload C 3 dX12_layFar_57 rfl ?_
      refine V_callVi (q := (RX12, TX12, 49)) (rest := []) C (nsM_mem (by decide)) (ceM_0 _) rfl (c_X12_alone l D cy ad A G v1 v4 M _ h) (cwV 2 C.1.2.2.2.2 gX12_layFar_X12_alone rfl rfl rfl (by decide +kernel) ⟨by decide, by decide⟩) rfl rfl (Nat.le_of_ble_eq_true rfl) dX12_layFar_59 (fun r12 M13 h => ?_)
      refine V_istore (lv' := [(5, .int r12), (0, .ref (ad 0)), (1, .int v1), (3, .int v3), (4, .int v4)]) C dX12_layFar_62 (by decide) rfl ?_
      refine V_aload_n C 1 dX12_layFar_64 rfl ?_
      refine V_get (k0 := 4) (Cn := RX12) (T := TX12) (N := 49) C (nsM_mem (by decide)) rfl iw_X12_layFar_X12 (by decide) rfl m_X12_layFar_f7 (ceM_0 _) rfl dX12_layFar_65 ?_
      refine V_iload C 4 dX12_layFar_68 rfl ?_
      have g15 := h.1
      have h := h.2
      refine V_iald (t0 := 1) (L := 7) C (nsM_mem (by decide)) (fun _ => rfl) rfl g15 dX12_layFar_70 ?_
      refine V_istore (lv' := [(6, .int (M13.1 1 v4.toNatClampNeg)), (5, .int r12), (0, .ref (ad 0)), (1, .int v1), (3, .int v3), (4, .int v4)]) C dX12_layFar_71 (by decide) rfl ?_
      refine V_aload_n C 2 dX12_layFar_73 rfl ?_
      refine V_get (k0 := 5) (Cn := RX12) (T := TX12) (N := 49) C (nsM_mem (by decide)) rfl iw_X12_layFar_X12 (by decide) rfl m_X12_layFar_f13 (ceM_0 _) rfl dX12_layFar_74 ?_
      refine V_iload C 5 dX12_layFar_77 rfl ?_
      refine V_iald (t0 := 1) (L := 7) C (nsM_mem (by decide)) (fun _ => rfl) rfl g15 dX12_layFar_79 ?_
      refine V_istore (lv' := [(7, .int (M13.1 2 v4.toNatClampNeg)), (6, .int (M13.1 1 v4.toNatClampNeg)), (5, .int r12), (0, .ref (ad 0)), (1, .int v1), (3, .int v3), (4, .int v4)]) C dX12_layFar_80 (by decide) rfl ?_
      refine V_aload_n C 3 dX12_layFar_82 rfl ?_
      refine V_get (k0 := 24) (Cn := RX12) (T := TX12) (N := 49) C (nsM_mem (by decide)) rfl iw_X12_layFar_X12 (by decide) rfl m_X12_layFar_f50 (ceM_0 _) rfl dX12_layFar_83 ?_
      refine V_iload C 1 dX12_layFar_86 rfl ?_
      refine V_aload_n C 3 dX12_layFar_88 rfl ?_
      refine V_get (k0 := 24) (Cn := RX12) (T := TX12) (N := 49) C (nsM_mem (by decide)) rfl iw_X12_layFar_X12 (by decide) rfl m_X12_layFar_f50 (ceM_0 _) rfl dX12_layFar_89 ?_
      refine V_iload C 0 dX12_layFar_92 rfl ?_
      have g16 := h.1
      have h := h.2
      refine V_iald (t0 := 1) (L := 5) C (nsM_mem (by decide)) (fun _ => rfl) rfl g16 dX12_layFar_94 ?_
      refine V_iload C 2 dX12_layFar_95 rfl ?_
      refine V_iadd C dX12_layFar_97 ?_
      refine V_aload_n C 3 dX12_layFar_98 rfl ?_
      refine V_get (k0 := 24) (Cn := RX12) (T := TX12) (N := 49) C (nsM_mem (by decide)) rfl iw_X12_layFar_X12 (by decide) rfl m_X12_layFar_f50 (ceM_0 _) rfl dX12_layFar_99 ?_
      refine V_iload C 1 dX12_layFar_102 rfl ?_
      have g17 := h.1
      have h := h.2
      refine V_iald (t0 := 1) (L := 5) C (nsM_mem (by decide)) (fun _ => rfl) rfl g17 dX12_layFar_104 ?_
      refine V_icmp_ge C 121 dX12_layFar_105 (by decide) (fun q18 => ?_) (fun q18 => ?_)
      · have h := h.1 q18
        refine V_aload_n C 3 dX12_layFar_121 rfl ?_
        refine V_get (k0 := 24) (Cn := RX12) (T := TX12) (N := 49) C (nsM_mem (by decide)) rfl iw_X12_layFar_X12 (by decide) rfl m_X12_layFar_f50 (ceM_0 _) rfl dX12_layFar_122 ?_
        refine V_iload C 1 dX12_layFar_125 rfl ?_
        refine V_iald (t0 := 1) (L := 5) C (nsM_mem (by decide)) (fun _ => rfl) rfl g17 dX12_layFar_127 ?_
        refine V_drop (lv' := [(0, .ref (ad 0)), (1, .int v1), (3, .int v3), (4, .int v4), (5, .int r12), (6, .int (M13.1 1 v4.toNatClampNeg)), (7, .int (M13.1 2 v4.toNatClampNeg))]) [3, 4, 5, 6, 2, 1, 0] rfl ?_
        exact L128 k35 hk35 (w_X12_layFar_46  post k35 n) ih v1 v3 v4 r12 (M13.1 1 v4.toNatClampNeg) (M13.1 2 v4.toNatClampNeg) (M13.1 1 v4.toNatClampNeg) (M13.1 14 (M13.1 1 v4.toNatClampNeg).toNatClampNeg) M13 h 
      · have h := h.2 q18
        refine V_aload_n C 3 dX12_layFar_108 rfl ?_
        refine V_get (k0 := 24) (Cn := RX12) (T := TX12) (N := 49) C (nsM_mem (by decide)) rfl iw_X12_layFar_X12 (by decide) rfl m_X12_layFar_f50 (ceM_0 _) rfl dX12_layFar_109 ?_
        refine V_iload C 0 dX12_layFar_112 rfl ?_
        refine V_iald (t0 := 1) (L := 5) C (nsM_mem (by decide)) (fun _ => rfl) rfl g16 dX12_layFar_114 ?_
        refine V_iload C 2 dX12_layFar_115 rfl ?_
        refine V_iadd C dX12_layFar_117 ?_
        refine V_goto C 128 dX12_layFar_118 (by decide) ?_
        refine V_drop (lv' := [(0, .ref (ad 0)), (1, .int v1), (3, .int v3), (4, .int v4), (5, .int r12), (6, .int (M13.1 1 v4.toNatClampNeg)), (7, .int (M13.1 2 v4.toNatClampNeg))]) [3, 4, 5, 6, 2, 1, 0] rfl ?_
        exact L128 k35 hk35 (w_X12_layFar_46  post k35 n) ih v1 v3 v4 r12 (M13.1 1 v4.toNatClampNeg) (M13.1 2 v4.toNatClampNeg) (M13.1 1 v4.toNatClampNeg) ((M13.1 14 (M13.1 2 v4.toNatClampNeg).toNatClampNeg) + r12) M13 h 
  have L35 : ∀  (n : Nat) (v1 : Int32) (v3 : Int32) (M : Mm), w_X12_layFar_35  post  n v1 v3 M → V p l e (rmL 3) s m args below meth c (MQ below (va_Qv post (Wd D (tysC cy) ad nsM (ceM ad cy) ExM) A) args s 0 0 A) D A ad nsM (ceM ad cy) 8 M [(0, .ref (ad 0)), (1, .int v1), (3, .int v3)] 35 [] := by
    intro  n
    induction n with
    | zero => intro v1 v3 M h; exact h.elim
    | succ n ih =>
    intro v1 v3 M h 
    unfold w_X12_layFar_35 at h
    refine V_iload_n C 2 dX12_layFar_35 rfl ?_
    refine V_aload_n C 0 dX12_layFar_36 rfl ?_
    refine V_get (k0 := 1) (Cn := RX12) (T := TX12) (N := 49) C (nsM_mem (by decide)) rfl iw_X12_layFar_X12 (by decide) rfl m_X12_layFar_f150 (ceM_0 _) rfl dX12_layFar_37 ?_
    refine V_icmp_ge C 188 dX12_layFar_40 (by decide) (fun q19 => ?_) (fun q19 => ?_)
    · have h := h.1 q19
      exact V_vret C hr hlk dX12_layFar_188 h
    · have h := h.2 q19
      refine V_iconst (v := (0 : Int32)) C dX12_layFar_43 (by decide) ?_
      refine V_istore (lv' := [(4, .int (0 : Int32)), (0, .ref (ad 0)), (1, .int v1), (3, .int v3)]) C dX12_layFar_44 (by decide) rfl ?_
      refine V_drop (lv' := [(0, .ref (ad 0)), (1, .int v1), (3, .int v3), (4, .int (0 : Int32))]) [1, 2, 3, 0] rfl ?_
      obtain ⟨n0, h⟩ := h
      exact L46 (w_X12_layFar_35  post  n) ih n0 v1 v3 (0 : Int32) M h 
  have L2 : ∀  (n : Nat) (v1 : Int32) (v2 : Int32) (v3 : Int32) (M : Mm), w_X12_layFar_2  post  n v1 v2 v3 M → V p l e (rmL 3) s m args below meth c (MQ below (va_Qv post (Wd D (tysC cy) ad nsM (ceM ad cy) ExM) A) args s 0 0 A) D A ad nsM (ceM ad cy) 8 M [(0, .ref (ad 0)), (1, .int v1), (2, .int v2), (3, .int v3)] 2 [] := by
    intro  n
    induction n with
    | zero => intro v1 v2 v3 M h; exact h.elim
    | succ n ih =>
    intro v1 v2 v3 M h 
    unfold w_X12_layFar_2 at h
    refine V_iload_n C 3 dX12_layFar_2 rfl ?_
    refine V_aload_n C 0 dX12_layFar_3 rfl ?_
    refine V_get (k0 := 1) (Cn := RX12) (T := TX12) (N := 49) C (nsM_mem (by decide)) rfl iw_X12_layFar_X12 (by decide) rfl m_X12_layFar_f150 (ceM_0 _) rfl dX12_layFar_4 ?_
    refine V_icmp_ge C 33 dX12_layFar_7 (by decide) (fun q20 => ?_) (fun q20 => ?_)
    · have h := h.1 q20
      refine V_iconst (v := (0 : Int32)) C dX12_layFar_33 (by decide) ?_
      refine V_istore_n (lv' := [(3, .int (0 : Int32)), (0, .ref (ad 0)), (1, .int v1), (2, .int v2)]) C dX12_layFar_34 rfl (by decide) rfl ?_
      refine V_drop (lv' := [(0, .ref (ad 0)), (1, .int v1), (3, .int (0 : Int32))]) [1, 2, 0] rfl ?_
      obtain ⟨n0, h⟩ := h
      exact L35  n0 v1 (0 : Int32) M h 
    · have h := h.2 q20
      refine V_aload_n C 0 dX12_layFar_10 rfl ?_
      refine V_get (k0 := 24) (Cn := RX12) (T := TX12) (N := 49) C (nsM_mem (by decide)) rfl iw_X12_layFar_X12 (by decide) rfl m_X12_layFar_f50 (ceM_0 _) rfl dX12_layFar_11 ?_
      refine V_iload_n C 3 dX12_layFar_14 rfl ?_
      refine V_iload_n C 3 dX12_layFar_15 rfl ?_
      refine V_iload_n C 2 dX12_layFar_16 rfl ?_
      refine V_icmp_ne C 24 dX12_layFar_17 (by decide) (fun q21 => ?_) (fun q21 => ?_)
      · have h := h.1 q21
        refine V_ldc (v := (268435456 : Int32)) C dX12_layFar_24 m_X12_layFar_c207 ?_
        have g22 := h.1
        have h := h.2
        refine V_iast (t0 := 1) (L := 5) C (nsM_mem (by decide)) (fun _ => rfl) rfl g22 dX12_layFar_26 (fun M23 e24 => ?_)
        have h := h M23 e24
        refine V_iinc (v := (v3 + 1)) (lv' := [(3, .int (v3 + 1)), (0, .ref (ad 0)), (1, .int v1), (2, .int v2)]) C 3 dX12_layFar_27 rfl rfl (by decide) rfl ?_
        refine V_goto C 2 dX12_layFar_30 (by decide) ?_
        refine V_drop (lv' := [(0, .ref (ad 0)), (1, .int v1), (2, .int v2), (3, .int (v3 + 1))]) [1, 2, 3, 0] rfl ?_
        exact ih v1 v2 (v3 + 1) M23 h 
      · have h := h.2 q21
        refine V_iconst (v := (0 : Int32)) C dX12_layFar_20 (by decide) ?_
        refine V_goto C 26 dX12_layFar_21 (by decide) ?_
        have g25 := h.1
        have h := h.2
        refine V_iast (t0 := 1) (L := 5) C (nsM_mem (by decide)) (fun _ => rfl) rfl g25 dX12_layFar_26 (fun M26 e27 => ?_)
        have h := h M26 e27
        refine V_iinc (v := (v3 + 1)) (lv' := [(3, .int (v3 + 1)), (0, .ref (ad 0)), (1, .int v1), (2, .int v2)]) C 3 dX12_layFar_27 rfl rfl (by decide) rfl ?_
        refine V_goto C 2 dX12_layFar_30 (by decide) ?_
        refine V_drop (lv' := [(0, .ref (ad 0)), (1, .int v1), (2, .int v2), (3, .int (v3 + 1))]) [1, 2, 3, 0] rfl ?_
        exact ih v1 v2 (v3 + 1) M26 h 
  unfold w_X12_layFar at h
  refine V_iconst (v := (0 : Int32)) C dX12_layFar_0 (by decide) ?_
  refine V_istore_n (lv' := [(3, .int (0 : Int32)), (0, .ref (ad 0)), (1, .int x1), (2, .int x2)]) C dX12_layFar_1 rfl (by decide) rfl ?_
  refine V_drop (lv' := [(0, .ref (ad 0)), (1, .int x1), (2, .int x2), (3, .int (0 : Int32))]) [1, 2, 3, 0] rfl ?_
  obtain ⟨n0, h⟩ := h
  exact L2  n0 x1 x2 (0 : Int32) M h 
def w_X12_farFrom (x1 : Int32) (x2 : Int32) (x3 : Int32) (M : Mm) (post : Int32 → Mm → Prop) : Prop :=
  w_X12_layFar x1 x3 M (fun M2 => (vp_in x2 5) ∧ ((((M2.1 14 x2.toNatClampNeg) < (268435456 : Int32)) → (post (M2.1 14 x2.toNatClampNeg) M2)) ∧ ((¬ (M2.1 14 x2.toNatClampNeg) < (268435456 : Int32)) → (post (-1 : Int32) M2))))
theorem iw_X12_farFrom_X12 : ∀ w ∈ u_ws RX12 TX12 49, w ∈ wsX12_farFrom := by decide +kernel
theorem m_X12_farFrom_f50 : Cond.fieldLink RX12 50 "ShameYardsModel" "farTo" "[I" ∈ wsX12_farFrom := by decide +kernel
theorem m_X12_farFrom_c207 : Jvm.Cond.constant RX12 207 (268435456) ∈ wsX12_farFrom := by decide +kernel
set_option maxHeartbeats 4000000 in
set_option maxRecDepth 100000 in
theorem c_X12_farFrom (l : Launch) (D : va_G) (cy : Nat → ClassId) (ad : Nat → Nat) (A : Nat → Prop) (G : Gd A ad nsM)   (x1 : Int32) (x2 : Int32) (x3 : Int32) (M : Mm) (post : Int32 → Mm → Prop) (h : w_X12_farFrom x1 x2 x3 M post) : CI l yX12_farFrom wsX12_farFrom (rmL 4) D (tysC cy) A ad nsM (ceM ad cy) ExM [.ref (ad 0), .int x1, .int x2, .int x3] M post := by
  refine Met_V (cc := cX12_farFrom) (maxL := 4) (ret := (some .int)) (by decide) rfl G Lo_M ExM_ok (Nat.le_of_ble_eq_true rfl) rfl ?_
  intro p e s m args below meth c C hr hlk
  have C : Cx p s m args c cX12_farFrom 4 RX12 wsX12_farFrom D (tysC cy) A ad nsM (ceM ad cy) ExM := C
  unfold w_X12_farFrom at h
  refine V_aload_n C 0 dX12_farFrom_0 rfl ?_
  refine V_iload_n C 1 dX12_farFrom_1 rfl ?_
  refine V_iload_n C 3 dX12_farFrom_2 rfl ?_
  refine V_callVv (q := (RX12, TX12, 49)) (rest := []) C (nsM_mem (by decide)) (ceM_0 _) rfl (c_X12_layFar l D cy ad A G x1 x3 M _ h) (cwV 2 C.1.2.2.2.2 gX12_farFrom_X12_layFar rfl rfl rfl (by decide +kernel) ⟨by decide, by decide⟩) rfl rfl (Nat.le_of_ble_eq_true rfl) dX12_farFrom_3 (fun M2 h => ?_)
  refine V_aload_n C 0 dX12_farFrom_6 rfl ?_
  refine V_get (k0 := 24) (Cn := RX12) (T := TX12) (N := 49) C (nsM_mem (by decide)) rfl iw_X12_farFrom_X12 (by decide) rfl m_X12_farFrom_f50 (ceM_0 _) rfl dX12_farFrom_7 ?_
  refine V_iload_n C 2 dX12_farFrom_10 rfl ?_
  have g4 := h.1
  have h := h.2
  refine V_iald (t0 := 1) (L := 5) C (nsM_mem (by decide)) (fun _ => rfl) rfl g4 dX12_farFrom_11 ?_
  refine V_ldc (v := (268435456 : Int32)) C dX12_farFrom_12 m_X12_farFrom_c207 ?_
  refine V_icmp_lt C 21 dX12_farFrom_14 (by decide) (fun q5 => ?_) (fun q5 => ?_)
  · have h := h.1 q5
    refine V_aload_n C 0 dX12_farFrom_21 rfl ?_
    refine V_get (k0 := 24) (Cn := RX12) (T := TX12) (N := 49) C (nsM_mem (by decide)) rfl iw_X12_farFrom_X12 (by decide) rfl m_X12_farFrom_f50 (ceM_0 _) rfl dX12_farFrom_22 ?_
    refine V_iload_n C 2 dX12_farFrom_25 rfl ?_
    refine V_iald (t0 := 1) (L := 5) C (nsM_mem (by decide)) (fun _ => rfl) rfl g4 dX12_farFrom_26 ?_
    exact V_iret C hr hlk dX12_farFrom_27 h
  · have h := h.2 q5
    refine V_iconst (v := (-1 : Int32)) C dX12_farFrom_17 (by decide) ?_
    refine V_goto C 27 dX12_farFrom_18 (by decide) ?_
    exact V_iret C hr hlk dX12_farFrom_27 h
def w_X12_nextPassage_2  (post : Int32 → Mm → Prop)  : Nat → Int32 → Int32 → Int32 → Mm → Prop
  | 0 => fun _ _ _ _ => False
  | n + 1 => fun v1 v2 v3 M =>
    w_X12_endsAt v3 v2 M (fun r1 M2 => ((r1 = 0) → (w_X12_nextPassage_2  post  n v1 v2 (v3 + 1) M2)) ∧ ((¬ r1 = 0) → (w_X12_beyond v3 v2 M2 (fun r5 M6 => (vp_in r5 5) ∧ (w_X12_alone v1 v3 M6 (fun r9 M10 => (vp_in v2 5) ∧ (((((M6.1 14 r5.toNatClampNeg) + r9) = (M10.1 14 v2.toNatClampNeg)) → (post v3 M10)) ∧ ((¬ ((M6.1 14 r5.toNatClampNeg) + r9) = (M10.1 14 v2.toNatClampNeg)) → (w_X12_nextPassage_2  post  n v1 v2 (v3 + 1) M10)))))))))
def w_X12_nextPassage (x1 : Int32) (x2 : Int32) (M : Mm) (post : Int32 → Mm → Prop) : Prop :=
  ∃ n0 : Nat, w_X12_nextPassage_2  post  n0 x1 x2 (0 : Int32) M
theorem iw_X12_nextPassage_X12 : ∀ w ∈ u_ws RX12 TX12 49, w ∈ wsX12_nextPassage := by decide +kernel
theorem m_X12_nextPassage_f50 : Cond.fieldLink RX12 50 "ShameYardsModel" "farTo" "[I" ∈ wsX12_nextPassage := by decide +kernel
set_option maxHeartbeats 4000000 in
set_option maxRecDepth 100000 in
theorem c_X12_nextPassage (l : Launch) (D : va_G) (cy : Nat → ClassId) (ad : Nat → Nat) (A : Nat → Prop) (G : Gd A ad nsM)   (x1 : Int32) (x2 : Int32) (M : Mm) (post : Int32 → Mm → Prop) (h : w_X12_nextPassage x1 x2 M post) : CI l yX12_nextPassage wsX12_nextPassage (rmL 3) D (tysC cy) A ad nsM (ceM ad cy) ExM [.ref (ad 0), .int x1, .int x2] M post := by
  refine Met_V (cc := cX12_nextPassage) (maxL := 4) (ret := (some .int)) (by decide) rfl G Lo_M ExM_ok (Nat.le_of_ble_eq_true rfl) rfl ?_
  intro p e s m args below meth c C hr hlk
  have C : Cx p s m args c cX12_nextPassage 4 RX12 wsX12_nextPassage D (tysC cy) A ad nsM (ceM ad cy) ExM := C
  have L2 : ∀  (n : Nat) (v1 : Int32) (v2 : Int32) (v3 : Int32) (M : Mm), w_X12_nextPassage_2  post  n v1 v2 v3 M → V p l e (rmL 3) s m args below meth c (MQ below (va_Qi post (Wd D (tysC cy) ad nsM (ceM ad cy) ExM) A) args s 0 0 A) D A ad nsM (ceM ad cy) 4 M [(0, .ref (ad 0)), (1, .int v1), (2, .int v2), (3, .int v3)] 2 [] := by
    intro  n
    induction n with
    | zero => intro v1 v2 v3 M h; exact h.elim
    | succ n ih =>
    intro v1 v2 v3 M h 
    unfold w_X12_nextPassage_2 at h
    refine V_aload_n C 0 dX12_nextPassage_2 rfl ?_
    refine V_iload_n C 3 dX12_nextPassage_3 rfl ?_
    refine V_iload_n C 2 dX12_nextPassage_4 rfl ?_
    refine V_callVi (q := (RX12, TX12, 49)) (rest := []) C (nsM_mem (by decide)) (ceM_0 _) rfl (c_X12_endsAt l D cy ad A G v3 v2 M _ h) (cwV 2 C.1.2.2.2.2 gX12_nextPassage_X12_endsAt rfl rfl rfl (by decide +kernel) ⟨by decide, by decide⟩) rfl rfl (Nat.le_of_ble_eq_true rfl) dX12_nextPassage_5 (fun r1 M2 h => ?_)
    obtain ⟨z3, h⟩ := h
    refine V_if_eq C 38 dX12_nextPassage_8 (by decide) (fun q4 => ?_) (fun q4 => ?_)
    · have h := h.1 q4
      refine V_iinc (v := (v3 + 1)) (lv' := [(3, .int (v3 + 1)), (0, .ref (ad 0)), (1, .int v1), (2, .int v2)]) C 3 dX12_nextPassage_38 rfl rfl (by decide) rfl ?_
      refine V_goto C 2 dX12_nextPassage_41 (by decide) ?_
      refine V_drop (lv' := [(0, .ref (ad 0)), (1, .int v1), (2, .int v2), (3, .int (v3 + 1))]) [1, 2, 3, 0] rfl ?_
      exact ih v1 v2 (v3 + 1) M2 h 
    · have h := h.2 q4
      refine V_aload_n C 0 dX12_nextPassage_11 rfl ?_
      refine V_get (k0 := 24) (Cn := RX12) (T := TX12) (N := 49) C (nsM_mem (by decide)) rfl iw_X12_nextPassage_X12 (by decide) rfl m_X12_nextPassage_f50 (ceM_0 _) rfl dX12_nextPassage_12 ?_
      refine V_aload_n C 0 dX12_nextPassage_15 rfl ?_
      refine V_iload_n C 3 dX12_nextPassage_16 rfl ?_
      refine V_iload_n C 2 dX12_nextPassage_17 rfl ?_
      refine V_callVi (q := (RX12, TX12, 49)) (rest := [.ref (ad 14)]) C (nsM_mem (by decide)) (ceM_0 _) rfl (c_X12_beyond l D cy ad A G v3 v2 M2 _ h) (cwV 2 C.1.2.2.2.2 gX12_nextPassage_X12_beyond rfl rfl rfl (by decide +kernel) ⟨by decide, by decide⟩) rfl rfl (Nat.le_of_ble_eq_true rfl) dX12_nextPassage_18 (fun r5 M6 h => ?_)
      have g8 := h.1
      have h := h.2
      refine V_iald (t0 := 1) (L := 5) C (nsM_mem (by decide)) (fun _ => rfl) rfl g8 dX12_nextPassage_21 ?_
      refine V_aload_n C 0 dX12_nextPassage_22 rfl ?_
      refine V_iload_n C 1 dX12_nextPassage_23 rfl ?_
      refine V_iload_n C 3 dX12_nextPassage_24 rfl ?_
      refine V_callVi (q := (RX12, TX12, 49)) (rest := [.int (M6.1 14 r5.toNatClampNeg)]) C (nsM_mem (by decide)) (ceM_0 _) rfl (c_X12_alone l D cy ad A G v1 v3 M6 _ h) (cwV 2 C.1.2.2.2.2 gX12_nextPassage_X12_alone rfl rfl rfl (by decide +kernel) ⟨by decide, by decide⟩) rfl rfl (Nat.le_of_ble_eq_true rfl) dX12_nextPassage_25 (fun r9 M10 h => ?_)
      refine V_iadd C dX12_nextPassage_28 ?_
      refine V_aload_n C 0 dX12_nextPassage_29 rfl ?_
      refine V_get (k0 := 24) (Cn := RX12) (T := TX12) (N := 49) C (nsM_mem (by decide)) rfl iw_X12_nextPassage_X12 (by decide) rfl m_X12_nextPassage_f50 (ceM_0 _) rfl dX12_nextPassage_30 ?_
      refine V_iload_n C 2 dX12_nextPassage_33 rfl ?_
      have g12 := h.1
      have h := h.2
      refine V_iald (t0 := 1) (L := 5) C (nsM_mem (by decide)) (fun _ => rfl) rfl g12 dX12_nextPassage_34 ?_
      refine V_icmp_eq C 44 dX12_nextPassage_35 (by decide) (fun q13 => ?_) (fun q13 => ?_)
      · have h := h.1 q13
        refine V_iload_n C 3 dX12_nextPassage_44 rfl ?_
        exact V_iret C hr hlk dX12_nextPassage_45 h
      · have h := h.2 q13
        refine V_iinc (v := (v3 + 1)) (lv' := [(3, .int (v3 + 1)), (0, .ref (ad 0)), (1, .int v1), (2, .int v2)]) C 3 dX12_nextPassage_38 rfl rfl (by decide) rfl ?_
        refine V_goto C 2 dX12_nextPassage_41 (by decide) ?_
        refine V_drop (lv' := [(0, .ref (ad 0)), (1, .int v1), (2, .int v2), (3, .int (v3 + 1))]) [1, 2, 3, 0] rfl ?_
        exact ih v1 v2 (v3 + 1) M10 h 
  unfold w_X12_nextPassage at h
  refine V_iconst (v := (0 : Int32)) C dX12_nextPassage_0 (by decide) ?_
  refine V_istore_n (lv' := [(3, .int (0 : Int32)), (0, .ref (ad 0)), (1, .int x1), (2, .int x2)]) C dX12_nextPassage_1 rfl (by decide) rfl ?_
  refine V_drop (lv' := [(0, .ref (ad 0)), (1, .int x1), (2, .int x2), (3, .int (0 : Int32))]) [1, 2, 3, 0] rfl ?_
  obtain ⟨n0, h⟩ := h
  exact L2  n0 x1 x2 (0 : Int32) M h 
def w_X12_farNow_57  (post : Int32 → Mm → Prop) (k33 : Int32 → Int32 → Int32 → Int32 → Int32 → Int32 → Mm → Prop) (v1 : Int32) (v3 : Int32) (v4 : Int32) (v6 : Int32) (v8 : Int32) (s0 : Int32) (M : Mm) : Prop :=
    ((¬ s0 = (-1 : Int32)) → (w_X12_beyond s0 v6 M (fun r2 M3 => k33 v1 v3 v4 r2 s0 (v8 + 1) M3))) ∧ ((s0 = (-1 : Int32)) → (k33 v1 v3 v4 v6 s0 (v8 + 1) M))
def w_X12_farNow_33  (post : Int32 → Mm → Prop)  : Nat → Int32 → Int32 → Int32 → Int32 → Int32 → Int32 → Mm → Prop
  | 0 => fun _ _ _ _ _ _ _ => False
  | n + 1 => fun v1 v3 v4 v6 v7 v8 M =>
    ((v4 < v8) → (post v7 M)) ∧ ((¬ v4 < v8) → (((¬ v6 = v3) → (w_X12_nextPassage v1 v6 M (fun r7 M8 => w_X12_farNow_57  post (w_X12_farNow_33  post  n) v1 v3 v4 v6 v8 r7 M8))) ∧ ((v6 = v3) → (w_X12_farNow_57  post (w_X12_farNow_33  post  n) v1 v3 v4 v6 v8 (-1 : Int32) M))))
def w_X12_farNow (x1 : Int32) (x2 : Int32) (x3 : Int32) (x4 : Int32) (M : Mm) (post : Int32 → Mm → Prop) : Prop :=
  w_X12_farFrom x1 x2 x3 M (fun r10 M11 => ((r10 = (-1 : Int32)) → (post r10 M11)) ∧ ((¬ r10 = (-1 : Int32)) → (((¬ x4 = 0) → (∃ n0 : Nat, w_X12_farNow_33  post  n0 x1 x3 x4 x2 (-1 : Int32) (10 : Int32) M11)) ∧ ((x4 = 0) → (post r10 M11)))))
set_option maxHeartbeats 4000000 in
set_option maxRecDepth 100000 in
theorem c_X12_farNow (l : Launch) (D : va_G) (cy : Nat → ClassId) (ad : Nat → Nat) (A : Nat → Prop) (G : Gd A ad nsM)   (x1 : Int32) (x2 : Int32) (x3 : Int32) (x4 : Int32) (M : Mm) (post : Int32 → Mm → Prop) (h : w_X12_farNow x1 x2 x3 x4 M post) : CI l yX12_farNow wsX12_farNow (rmL 5) D (tysC cy) A ad nsM (ceM ad cy) ExM [.ref (ad 0), .int x1, .int x2, .int x3, .int x4] M post := by
  refine Met_V (cc := cX12_farNow) (maxL := 9) (ret := (some .int)) (by decide) rfl G Lo_M ExM_ok (Nat.le_of_ble_eq_true rfl) rfl ?_
  intro p e s m args below meth c C hr hlk
  have C : Cx p s m args c cX12_farNow 9 RX12 wsX12_farNow D (tysC cy) A ad nsM (ceM ad cy) ExM := C
  have L57 : ∀ (k33 : Int32 → Int32 → Int32 → Int32 → Int32 → Int32 → Mm → Prop) (hk33 : ∀ (v1 : Int32) (v3 : Int32) (v4 : Int32) (v6 : Int32) (v7 : Int32) (v8 : Int32) (M : Mm), k33 v1 v3 v4 v6 v7 v8 M → V p l e (rmL 5) s m args below meth c (MQ below (va_Qi post (Wd D (tysC cy) ad nsM (ceM ad cy) ExM) A) args s 0 0 A) D A ad nsM (ceM ad cy) 9 M [(0, .ref (ad 0)), (1, .int v1), (3, .int v3), (4, .int v4), (6, .int v6), (7, .int v7), (8, .int v8)] 33 []) (v1 : Int32) (v3 : Int32) (v4 : Int32) (v6 : Int32) (v8 : Int32) (s0 : Int32) (M : Mm), w_X12_farNow_57  post k33 v1 v3 v4 v6 v8 s0 M → V p l e (rmL 5) s m args below meth c (MQ below (va_Qi post (Wd D (tysC cy) ad nsM (ceM ad cy) ExM) A) args s 0 0 A) D A ad nsM (ceM ad cy) 9 M [(0, .ref (ad 0)), (1, .int v1), (3, .int v3), (4, .int v4), (6, .int v6), (8, .int v8)] 57 [.int s0] := by
    intro k33 hk33 v1 v3 v4 v6 v8 s0 M h 
    unfold w_X12_farNow_57 at h
    refine V_istore (lv' := [(7, .int s0), (0, .ref (ad 0)), (1, .int v1), (3, .int v3), (4, .int v4), (6, .int v6), (8, .int v8)]) C dX12_farNow_57 (by decide) rfl ?_
    refine V_iload C 0 dX12_farNow_59 rfl ?_
    refine V_iconst (v := (-1 : Int32)) C dX12_farNow_61 (by decide) ?_
    refine V_icmp_ne C 70 dX12_farNow_62 (by decide) (fun q1 => ?_) (fun q1 => ?_)
    · have h := h.1 q1
      refine V_aload_n C 1 dX12_farNow_70 rfl ?_
      refine V_iload C 0 dX12_farNow_71 rfl ?_
      refine V_iload C 5 dX12_farNow_73 rfl ?_
      refine V_callVi (q := (RX12, TX12, 49)) (rest := []) C (nsM_mem (by decide)) (ceM_0 _) rfl (c_X12_beyond l D cy ad A G s0 v6 M _ h) (cwV 2 C.1.2.2.2.2 gX12_farNow_X12_beyond rfl rfl rfl (by decide +kernel) ⟨by decide, by decide⟩) rfl rfl (Nat.le_of_ble_eq_true rfl) dX12_farNow_75 (fun r2 M3 h => ?_)
      refine V_istore (lv' := [(6, .int r2), (7, .int s0), (0, .ref (ad 0)), (1, .int v1), (3, .int v3), (4, .int v4), (8, .int v8)]) C dX12_farNow_78 (by decide) rfl ?_
      refine V_iinc (v := (v8 + 1)) (lv' := [(8, .int (v8 + 1)), (6, .int r2), (7, .int s0), (0, .ref (ad 0)), (1, .int v1), (3, .int v3), (4, .int v4)]) C 6 dX12_farNow_80 rfl rfl (by decide) rfl ?_
      refine V_goto C 33 dX12_farNow_83 (by decide) ?_
      refine V_drop (lv' := [(0, .ref (ad 0)), (1, .int v1), (3, .int v3), (4, .int v4), (6, .int r2), (7, .int s0), (8, .int (v8 + 1))]) [3, 4, 5, 6, 1, 2, 0] rfl ?_
      exact hk33 v1 v3 v4 r2 s0 (v8 + 1) M3 h 
    · have h := h.2 q1
      refine V_iload C 5 dX12_farNow_65 rfl ?_
      refine V_goto C 78 dX12_farNow_67 (by decide) ?_
      refine V_istore (lv' := [(6, .int v6), (7, .int s0), (0, .ref (ad 0)), (1, .int v1), (3, .int v3), (4, .int v4), (8, .int v8)]) C dX12_farNow_78 (by decide) rfl ?_
      refine V_iinc (v := (v8 + 1)) (lv' := [(8, .int (v8 + 1)), (6, .int v6), (7, .int s0), (0, .ref (ad 0)), (1, .int v1), (3, .int v3), (4, .int v4)]) C 6 dX12_farNow_80 rfl rfl (by decide) rfl ?_
      refine V_goto C 33 dX12_farNow_83 (by decide) ?_
      refine V_drop (lv' := [(0, .ref (ad 0)), (1, .int v1), (3, .int v3), (4, .int v4), (6, .int v6), (7, .int s0), (8, .int (v8 + 1))]) [3, 4, 5, 6, 1, 2, 0] rfl ?_
      exact hk33 v1 v3 v4 v6 s0 (v8 + 1) M h 
  have L33 : ∀  (n : Nat) (v1 : Int32) (v3 : Int32) (v4 : Int32) (v6 : Int32) (v7 : Int32) (v8 : Int32) (M : Mm), w_X12_farNow_33  post  n v1 v3 v4 v6 v7 v8 M → V p l e (rmL 5) s m args below meth c (MQ below (va_Qi post (Wd D (tysC cy) ad nsM (ceM ad cy) ExM) A) args s 0 0 A) D A ad nsM (ceM ad cy) 9 M [(0, .ref (ad 0)), (1, .int v1), (3, .int v3), (4, .int v4), (6, .int v6), (7, .int v7), (8, .int v8)] 33 [] := by
    intro  n
    induction n with
    | zero => intro v1 v3 v4 v6 v7 v8 M h; exact h.elim
    | succ n ih =>
    intro v1 v3 v4 v6 v7 v8 M h 
    unfold w_X12_farNow_33 at h
    refine V_iload C 6 dX12_farNow_33 rfl ?_
    refine V_iload C 3 dX12_farNow_35 rfl ?_
    refine V_icmp_gt C 86 dX12_farNow_37 (by decide) (fun q5 => ?_) (fun q5 => ?_)
    · have h := h.1 q5
      refine V_iload C 5 dX12_farNow_86 rfl ?_
      exact V_iret C hr hlk dX12_farNow_88 h
    · have h := h.2 q5
      refine V_iload C 4 dX12_farNow_40 rfl ?_
      refine V_iload_n C 2 dX12_farNow_42 rfl ?_
      refine V_icmp_ne C 50 dX12_farNow_43 (by decide) (fun q6 => ?_) (fun q6 => ?_)
      · have h := h.1 q6
        refine V_aload_n C 0 dX12_farNow_50 rfl ?_
        refine V_iload_n C 1 dX12_farNow_51 rfl ?_
        refine V_iload C 4 dX12_farNow_52 rfl ?_
        refine V_callVi (q := (RX12, TX12, 49)) (rest := []) C (nsM_mem (by decide)) (ceM_0 _) rfl (c_X12_nextPassage l D cy ad A G v1 v6 M _ h) (cwV 2 C.1.2.2.2.2 gX12_farNow_X12_nextPassage rfl rfl rfl (by decide +kernel) ⟨by decide, by decide⟩) rfl rfl (Nat.le_of_ble_eq_true rfl) dX12_farNow_54 (fun r7 M8 h => ?_)
        refine V_drop (lv' := [(0, .ref (ad 0)), (1, .int v1), (3, .int v3), (4, .int v4), (6, .int v6), (8, .int v8)]) [0, 1, 2, 3, 4, 6] rfl ?_
        exact L57 (w_X12_farNow_33  post  n) ih v1 v3 v4 v6 v8 r7 M8 h 
      · have h := h.2 q6
        refine V_iconst (v := (-1 : Int32)) C dX12_farNow_46 (by decide) ?_
        refine V_goto C 57 dX12_farNow_47 (by decide) ?_
        refine V_drop (lv' := [(0, .ref (ad 0)), (1, .int v1), (3, .int v3), (4, .int v4), (6, .int v6), (8, .int v8)]) [0, 1, 2, 3, 4, 6] rfl ?_
        exact L57 (w_X12_farNow_33  post  n) ih v1 v3 v4 v6 v8 (-1 : Int32) M h 
  unfold w_X12_farNow at h
  refine V_aload_n C 0 dX12_farNow_0 rfl ?_
  refine V_iload_n C 1 dX12_farNow_1 rfl ?_
  refine V_iload_n C 2 dX12_farNow_2 rfl ?_
  refine V_iload_n C 3 dX12_farNow_3 rfl ?_
  refine V_callVi (q := (RX12, TX12, 49)) (rest := []) C (nsM_mem (by decide)) (ceM_0 _) rfl (c_X12_farFrom l D cy ad A G x1 x2 x3 M _ h) (cwV 3 C.1.2.2.2.2 gX12_farNow_X12_farFrom rfl rfl rfl (by decide +kernel) ⟨by decide, by decide⟩) rfl rfl (Nat.le_of_ble_eq_true rfl) dX12_farNow_4 (fun r10 M11 h => ?_)
  refine V_istore (lv' := [(5, .int r10), (0, .ref (ad 0)), (1, .int x1), (2, .int x2), (3, .int x3), (4, .int x4)]) C dX12_farNow_7 (by decide) rfl ?_
  refine V_iload C 0 dX12_farNow_9 rfl ?_
  refine V_iconst (v := (-1 : Int32)) C dX12_farNow_11 (by decide) ?_
  refine V_icmp_eq C 20 dX12_farNow_12 (by decide) (fun q13 => ?_) (fun q13 => ?_)
  · have h := h.1 q13
    refine V_iload C 0 dX12_farNow_20 rfl ?_
    exact V_iret C hr hlk dX12_farNow_22 h
  · have h := h.2 q13
    refine V_iload C 5 dX12_farNow_15 rfl ?_
    refine V_if_ne C 23 dX12_farNow_17 (by decide) (fun q14 => ?_) (fun q14 => ?_)
    · have h := h.1 q14
      refine V_iload_n C 3 dX12_farNow_23 rfl ?_
      refine V_istore (lv' := [(6, .int x2), (5, .int r10), (0, .ref (ad 0)), (1, .int x1), (2, .int x2), (3, .int x3), (4, .int x4)]) C dX12_farNow_24 (by decide) rfl ?_
      refine V_iconst (v := (-1 : Int32)) C dX12_farNow_26 (by decide) ?_
      refine V_istore (lv' := [(7, .int (-1 : Int32)), (6, .int x2), (5, .int r10), (0, .ref (ad 0)), (1, .int x1), (2, .int x2), (3, .int x3), (4, .int x4)]) C dX12_farNow_27 (by decide) rfl ?_
      refine V_bipush (v := (10 : Int32)) C dX12_farNow_29 (by decide) ?_
      refine V_istore (lv' := [(8, .int (10 : Int32)), (7, .int (-1 : Int32)), (6, .int x2), (5, .int r10), (0, .ref (ad 0)), (1, .int x1), (2, .int x2), (3, .int x3), (4, .int x4)]) C dX12_farNow_31 (by decide) rfl ?_
      refine V_drop (lv' := [(0, .ref (ad 0)), (1, .int x1), (3, .int x3), (4, .int x4), (6, .int x2), (7, .int (-1 : Int32)), (8, .int (10 : Int32))]) [4, 5, 7, 8, 2, 1, 0] rfl ?_
      obtain ⟨n0, h⟩ := h
      exact L33  n0 x1 x3 x4 x2 (-1 : Int32) (10 : Int32) M11 h 
    · have h := h.2 q14
      refine V_iload C 0 dX12_farNow_20 rfl ?_
      exact V_iret C hr hlk dX12_farNow_22 h
def w_X12_far_44  (post : Int32 → Mm → Prop)  (v1 : Int32) (v2 : Int32) (v3 : Int32) (v4 : Int32) (M : Mm) : Prop :=
    w_X12_farNow v1 v2 v3 v4 M (fun r1 M2 => post r1 M2)
def w_X12_far (x1 : Int32) (x2 : Int32) (x3 : Int32) (x4 : Int32) (M : Mm) (post : Int32 → Mm → Prop) : Prop :=
  w_X12_isPerson x1 M (fun r4 M5 => ((r4 = 0) → (post (-101 : Int32) M5)) ∧ ((¬ r4 = 0) → (w_X12_isRoom x2 M5 (fun r8 M9 => ((r8 = 0) → (post (-101 : Int32) M9)) ∧ ((¬ r8 = 0) → (w_X12_isRoom x3 M9 (fun r12 M13 => ((¬ r12 = 0) → (((x4 = 0) → (w_X12_far_44  post  x1 x2 x3 x4 M13)) ∧ ((¬ x4 = 0) → (w_X12_within x4 (10 : Int32) (13 : Int32) M13 (fun r17 M18 => ((r17 = 0) → (post (-102 : Int32) M18)) ∧ ((¬ r17 = 0) → (w_X12_far_44  post  x1 x2 x3 x4 M18))))))) ∧ ((r12 = 0) → (post (-101 : Int32) M13)))))))))
set_option maxHeartbeats 4000000 in
set_option maxRecDepth 100000 in
theorem c_X12_far (l : Launch) (D : va_G) (cy : Nat → ClassId) (ad : Nat → Nat) (A : Nat → Prop) (G : Gd A ad nsM)   (x1 : Int32) (x2 : Int32) (x3 : Int32) (x4 : Int32) (M : Mm) (post : Int32 → Mm → Prop) (h : w_X12_far x1 x2 x3 x4 M post) : CI l yX12_far wsX12_far (rmL 6) D (tysC cy) A ad nsM (ceM ad cy) ExM [.ref (ad 0), .int x1, .int x2, .int x3, .int x4] M post := by
  refine Met_V (cc := cX12_far) (maxL := 5) (ret := (some .int)) (by decide) rfl G Lo_M ExM_ok (Nat.le_of_ble_eq_true rfl) rfl ?_
  intro p e s m args below meth c C hr hlk
  have C : Cx p s m args c cX12_far 5 RX12 wsX12_far D (tysC cy) A ad nsM (ceM ad cy) ExM := C
  have L44 : ∀  (v1 : Int32) (v2 : Int32) (v3 : Int32) (v4 : Int32) (M : Mm), w_X12_far_44  post  v1 v2 v3 v4 M → V p l e (rmL 6) s m args below meth c (MQ below (va_Qi post (Wd D (tysC cy) ad nsM (ceM ad cy) ExM) A) args s 0 0 A) D A ad nsM (ceM ad cy) 5 M [(0, .ref (ad 0)), (1, .int v1), (2, .int v2), (3, .int v3), (4, .int v4)] 44 [] := by
    intro  v1 v2 v3 v4 M h 
    unfold w_X12_far_44 at h
    refine V_aload_n C 0 dX12_far_44 rfl ?_
    refine V_iload_n C 1 dX12_far_45 rfl ?_
    refine V_iload_n C 2 dX12_far_46 rfl ?_
    refine V_iload_n C 3 dX12_far_47 rfl ?_
    refine V_iload C 4 dX12_far_48 rfl ?_
    refine V_callVi (q := (RX12, TX12, 49)) (rest := []) C (nsM_mem (by decide)) (ceM_0 _) rfl (c_X12_farNow l D cy ad A G v1 v2 v3 v4 M _ h) (cwV 4 C.1.2.2.2.2 gX12_far_X12_farNow rfl rfl rfl (by decide +kernel) ⟨by decide, by decide⟩) rfl rfl (Nat.le_of_ble_eq_true rfl) dX12_far_50 (fun r1 M2 h => ?_)
    refine V_goto C 58 dX12_far_53 (by decide) ?_
    exact V_iret C hr hlk dX12_far_58 h
  unfold w_X12_far at h
  refine V_aload_n C 0 dX12_far_0 rfl ?_
  refine V_iload_n C 1 dX12_far_1 rfl ?_
  refine V_callVi (q := (RX12, TX12, 49)) (rest := []) C (nsM_mem (by decide)) (ceM_0 _) rfl (c_X12_isPerson l D cy ad A G x1 M _ h) (cwV 1 C.1.2.2.2.2 gX12_far_X12_isPerson rfl rfl rfl (by decide +kernel) ⟨by decide, by decide⟩) rfl rfl (Nat.le_of_ble_eq_true rfl) dX12_far_2 (fun r4 M5 h => ?_)
  obtain ⟨z6, h⟩ := h
  refine V_if_eq C 24 dX12_far_5 (by decide) (fun q7 => ?_) (fun q7 => ?_)
  · have h := h.1 q7
    refine V_bipush (v := (-101 : Int32)) C dX12_far_24 (by decide) ?_
    exact V_iret C hr hlk dX12_far_26 h
  · have h := h.2 q7
    refine V_aload_n C 0 dX12_far_8 rfl ?_
    refine V_iload_n C 2 dX12_far_9 rfl ?_
    refine V_callVi (q := (RX12, TX12, 49)) (rest := []) C (nsM_mem (by decide)) (ceM_0 _) rfl (c_X12_isRoom l D cy ad A G x2 M5 _ h) (cwV 1 C.1.2.2.2.2 gX12_far_X12_isRoom rfl rfl rfl (by decide +kernel) ⟨by decide, by decide⟩) rfl rfl (Nat.le_of_ble_eq_true rfl) dX12_far_10 (fun r8 M9 h => ?_)
    obtain ⟨z10, h⟩ := h
    refine V_if_eq C 24 dX12_far_13 (by decide) (fun q11 => ?_) (fun q11 => ?_)
    · have h := h.1 q11
      refine V_bipush (v := (-101 : Int32)) C dX12_far_24 (by decide) ?_
      exact V_iret C hr hlk dX12_far_26 h
    · have h := h.2 q11
      refine V_aload_n C 0 dX12_far_16 rfl ?_
      refine V_iload_n C 3 dX12_far_17 rfl ?_
      refine V_callVi (q := (RX12, TX12, 49)) (rest := []) C (nsM_mem (by decide)) (ceM_0 _) rfl (c_X12_isRoom l D cy ad A G x3 M9 _ h) (cwV 1 C.1.2.2.2.2 gX12_far_X12_isRoom rfl rfl rfl (by decide +kernel) ⟨by decide, by decide⟩) rfl rfl (Nat.le_of_ble_eq_true rfl) dX12_far_18 (fun r12 M13 h => ?_)
      obtain ⟨z14, h⟩ := h
      refine V_if_ne C 27 dX12_far_21 (by decide) (fun q15 => ?_) (fun q15 => ?_)
      · have h := h.1 q15
        refine V_iload C 4 dX12_far_27 rfl ?_
        refine V_if_eq C 44 dX12_far_29 (by decide) (fun q16 => ?_) (fun q16 => ?_)
        · have h := h.1 q16
          refine V_drop (lv' := [(0, .ref (ad 0)), (1, .int x1), (2, .int x2), (3, .int x3), (4, .int x4)]) [0, 1, 2, 3, 4] rfl ?_
          exact L44  x1 x2 x3 x4 M13 h 
        · have h := h.2 q16
          refine V_iload C 4 dX12_far_32 rfl ?_
          refine V_bipush (v := (10 : Int32)) C dX12_far_34 (by decide) ?_
          refine V_bipush (v := (13 : Int32)) C dX12_far_36 (by decide) ?_
          refine V_callSi (rest := []) C (c_X12_within l D cy ad A G x4 (10 : Int32) (13 : Int32) M13 _ h) (va_cwS 3 C.1.2.2.2.2 gX12_far_X12_within rfl rfl rfl (by decide +kernel) ⟨by decide, by decide⟩) rfl rfl (Nat.le_of_ble_eq_true rfl) dX12_far_38 (fun r17 M18 h => ?_)
          obtain ⟨z19, h⟩ := h
          refine V_if_eq C 56 dX12_far_41 (by decide) (fun q20 => ?_) (fun q20 => ?_)
          · have h := h.1 q20
            refine V_bipush (v := (-102 : Int32)) C dX12_far_56 (by decide) ?_
            exact V_iret C hr hlk dX12_far_58 h
          · have h := h.2 q20
            refine V_drop (lv' := [(0, .ref (ad 0)), (1, .int x1), (2, .int x2), (3, .int x3), (4, .int x4)]) [0, 1, 2, 3, 4] rfl ?_
            exact L44  x1 x2 x3 x4 M18 h 
      · have h := h.2 q15
        refine V_bipush (v := (-101 : Int32)) C dX12_far_24 (by decide) ?_
        exact V_iret C hr hlk dX12_far_26 h
