def w_X12_sentSteps_6  (post : Int32 → Mm → Prop)  : Nat → Int32 → Int32 → Int32 → Mm → Prop
  | 0 => fun _ _ _ _ => False
  | n + 1 => fun v1 v2 v3 M =>
    (((M.1 0 1) ≤ v3) → (post v1 M)) ∧ ((¬ (M.1 0 1) ≤ v3) → ((vp_in v3 5) ∧ ((vp_in (((5 : Int32) * (M.1 15 v3.toNatClampNeg)) + v3) 25) ∧ ((((M.1 17 (((5 : Int32) * (M.1 15 v3.toNatClampNeg)) + v3).toNatClampNeg) = (-1 : Int32)) → (post (268435456 : Int32) M)) ∧ ((¬ (M.1 17 (((5 : Int32) * (M.1 15 v3.toNatClampNeg)) + v3).toNatClampNeg) = (-1 : Int32)) → (w_X12_isIn v2 (M.1 15 v3.toNatClampNeg) M (fun r5 M6 => ((r5 = 0) → (w_X12_sentSteps_6  post  n (v1 + (M.1 17 (((5 : Int32) * (M.1 15 v3.toNatClampNeg)) + v3).toNatClampNeg)) (v2 ||| ((1 : Int32) <<< ((M6.1 15 v3.toNatClampNeg) &&& 31))) (v3 + 1) M6)) ∧ ((¬ r5 = 0) → (post (268435456 : Int32) M6)))))))))
def w_X12_sentSteps  (M : Mm) (post : Int32 → Mm → Prop) : Prop :=
  ∃ n0 : Nat, w_X12_sentSteps_6  post  n0 (0 : Int32) (0 : Int32) (1 : Int32) M
theorem iw_X12_sentSteps_X12 : ∀ w ∈ u_ws RX12 TX12 49, w ∈ wsX12_sentSteps := by decide +kernel
theorem m_X12_sentSteps_f150 : Cond.fieldLink RX12 150 "ShameYardsModel" "rooms" "I" ∈ wsX12_sentSteps := by decide +kernel
theorem m_X12_sentSteps_f59 : Cond.fieldLink RX12 59 "ShameYardsModel" "farBy" "[I" ∈ wsX12_sentSteps := by decide +kernel
theorem m_X12_sentSteps_f53 : Cond.fieldLink RX12 53 "ShameYardsModel" "sent" "[I" ∈ wsX12_sentSteps := by decide +kernel
theorem m_X12_sentSteps_c207 : Jvm.Cond.constant RX12 207 (268435456) ∈ wsX12_sentSteps := by decide +kernel
set_option maxHeartbeats 4000000 in
set_option maxRecDepth 100000 in
theorem c_X12_sentSteps (l : Launch) (D : va_G) (cy : Nat → ClassId) (ad : Nat → Nat) (A : Nat → Prop) (G : Gd A ad nsM)    (M : Mm) (post : Int32 → Mm → Prop) (h : w_X12_sentSteps  M post) : CI l yX12_sentSteps wsX12_sentSteps (rmL 3) D (tysC cy) A ad nsM (ceM ad cy) ExM [.ref (ad 0)] M post := by
  refine Met_V (cc := cX12_sentSteps) (maxL := 5) (ret := (some .int)) (by decide) rfl G Lo_M ExM_ok (Nat.le_of_ble_eq_true rfl) rfl ?_
  intro p e s m args below meth c C hr hlk
  have C : Cx p s m args c cX12_sentSteps 5 RX12 wsX12_sentSteps D (tysC cy) A ad nsM (ceM ad cy) ExM := C
  have L6 : ∀  (n : Nat) (v1 : Int32) (v2 : Int32) (v3 : Int32) (M : Mm), w_X12_sentSteps_6  post  n v1 v2 v3 M → V p l e (rmL 3) s m args below meth c (MQ below (va_Qi post (Wd D (tysC cy) ad nsM (ceM ad cy) ExM) A) args s 0 0 A) D A ad nsM (ceM ad cy) 5 M [(0, .ref (ad 0)), (1, .int v1), (2, .int v2), (3, .int v3)] 6 [] := by
    intro  n
    induction n with
    | zero => intro v1 v2 v3 M h; exact h.elim
    | succ n ih =>
    intro v1 v2 v3 M h 
    unfold w_X12_sentSteps_6 at h
    refine V_iload_n C 3 dX12_sentSteps_6 rfl ?_
    refine V_aload_n C 0 dX12_sentSteps_7 rfl ?_
    refine V_get (k0 := 1) (Cn := RX12) (T := TX12) (N := 49) C (nsM_mem (by decide)) rfl iw_X12_sentSteps_X12 (by decide) rfl m_X12_sentSteps_f150 (ceM_0 _) rfl dX12_sentSteps_8 ?_
    refine V_icmp_ge C 75 dX12_sentSteps_11 (by decide) (fun q1 => ?_) (fun q1 => ?_)
    · have h := h.1 q1
      refine V_iload_n C 1 dX12_sentSteps_75 rfl ?_
      exact V_iret C hr hlk dX12_sentSteps_76 h
    · have h := h.2 q1
      refine V_aload_n C 0 dX12_sentSteps_14 rfl ?_
      refine V_get (k0 := 27) (Cn := RX12) (T := TX12) (N := 49) C (nsM_mem (by decide)) rfl iw_X12_sentSteps_X12 (by decide) rfl m_X12_sentSteps_f59 (ceM_0 _) rfl dX12_sentSteps_15 ?_
      refine V_iconst (v := (5 : Int32)) C dX12_sentSteps_18 (by decide) ?_
      refine V_aload_n C 0 dX12_sentSteps_19 rfl ?_
      refine V_get (k0 := 25) (Cn := RX12) (T := TX12) (N := 49) C (nsM_mem (by decide)) rfl iw_X12_sentSteps_X12 (by decide) rfl m_X12_sentSteps_f53 (ceM_0 _) rfl dX12_sentSteps_20 ?_
      refine V_iload_n C 3 dX12_sentSteps_23 rfl ?_
      have g2 := h.1
      have h := h.2
      refine V_iald (t0 := 1) (L := 5) C (nsM_mem (by decide)) (fun _ => rfl) rfl g2 dX12_sentSteps_24 ?_
      refine V_imul C dX12_sentSteps_25 ?_
      refine V_iload_n C 3 dX12_sentSteps_26 rfl ?_
      refine V_iadd C dX12_sentSteps_27 ?_
      have g3 := h.1
      have h := h.2
      refine V_iald (t0 := 1) (L := 25) C (nsM_mem (by decide)) (fun _ => rfl) rfl g3 dX12_sentSteps_28 ?_
      refine V_istore (lv' := [(4, .int (M.1 17 (((5 : Int32) * (M.1 15 v3.toNatClampNeg)) + v3).toNatClampNeg)), (0, .ref (ad 0)), (1, .int v1), (2, .int v2), (3, .int v3)]) C dX12_sentSteps_29 (by decide) rfl ?_
      refine V_iload C 0 dX12_sentSteps_31 rfl ?_
      refine V_iconst (v := (-1 : Int32)) C dX12_sentSteps_33 (by decide) ?_
      refine V_icmp_eq C 50 dX12_sentSteps_34 (by decide) (fun q4 => ?_) (fun q4 => ?_)
      · have h := h.1 q4
        refine V_ldc (v := (268435456 : Int32)) C dX12_sentSteps_50 m_X12_sentSteps_c207 ?_
        exact V_iret C hr hlk dX12_sentSteps_52 h
      · have h := h.2 q4
        refine V_iload_n C 3 dX12_sentSteps_37 rfl ?_
        refine V_aload_n C 1 dX12_sentSteps_38 rfl ?_
        refine V_get (k0 := 25) (Cn := RX12) (T := TX12) (N := 49) C (nsM_mem (by decide)) rfl iw_X12_sentSteps_X12 (by decide) rfl m_X12_sentSteps_f53 (ceM_0 _) rfl dX12_sentSteps_39 ?_
        refine V_iload_n C 4 dX12_sentSteps_42 rfl ?_
        refine V_iald (t0 := 1) (L := 5) C (nsM_mem (by decide)) (fun _ => rfl) rfl g2 dX12_sentSteps_43 ?_
        refine V_callSi (rest := []) C (c_X12_isIn l D cy ad A G v2 (M.1 15 v3.toNatClampNeg) M _ h) (va_cwS 2 C.1.2.2.2.2 gX12_sentSteps_X12_isIn rfl rfl rfl (by decide +kernel) ⟨by decide, by decide⟩) rfl rfl (Nat.le_of_ble_eq_true rfl) dX12_sentSteps_44 (fun r5 M6 h => ?_)
        obtain ⟨z7, h⟩ := h
        refine V_if_eq C 53 dX12_sentSteps_47 (by decide) (fun q8 => ?_) (fun q8 => ?_)
        · have h := h.1 q8
          refine V_iload_n C 3 dX12_sentSteps_53 rfl ?_
          refine V_iconst (v := (1 : Int32)) C dX12_sentSteps_54 (by decide) ?_
          refine V_aload_n C 1 dX12_sentSteps_55 rfl ?_
          refine V_get (k0 := 25) (Cn := RX12) (T := TX12) (N := 49) C (nsM_mem (by decide)) rfl iw_X12_sentSteps_X12 (by decide) rfl m_X12_sentSteps_f53 (ceM_0 _) rfl dX12_sentSteps_56 ?_
          refine V_iload_n C 4 dX12_sentSteps_59 rfl ?_
          refine V_iald (t0 := 1) (L := 5) C (nsM_mem (by decide)) (fun _ => rfl) rfl g2 dX12_sentSteps_60 ?_
          refine V_ishl C dX12_sentSteps_61 ?_
          refine V_ior C dX12_sentSteps_62 ?_
          refine V_istore_n (lv' := [(2, .int (v2 ||| ((1 : Int32) <<< ((M6.1 15 v3.toNatClampNeg) &&& 31)))), (4, .int (M.1 17 (((5 : Int32) * (M.1 15 v3.toNatClampNeg)) + v3).toNatClampNeg)), (0, .ref (ad 0)), (1, .int v1), (3, .int v3)]) C dX12_sentSteps_63 rfl (by decide) rfl ?_
          refine V_iload_n C 3 dX12_sentSteps_64 rfl ?_
          refine V_iload C 1 dX12_sentSteps_65 rfl ?_
          refine V_iadd C dX12_sentSteps_67 ?_
          refine V_istore_n (lv' := [(1, .int (v1 + (M.1 17 (((5 : Int32) * (M.1 15 v3.toNatClampNeg)) + v3).toNatClampNeg))), (2, .int (v2 ||| ((1 : Int32) <<< ((M6.1 15 v3.toNatClampNeg) &&& 31)))), (4, .int (M.1 17 (((5 : Int32) * (M.1 15 v3.toNatClampNeg)) + v3).toNatClampNeg)), (0, .ref (ad 0)), (3, .int v3)]) C dX12_sentSteps_68 rfl (by decide) rfl ?_
          refine V_iinc (v := (v3 + 1)) (lv' := [(3, .int (v3 + 1)), (1, .int (v1 + (M.1 17 (((5 : Int32) * (M.1 15 v3.toNatClampNeg)) + v3).toNatClampNeg))), (2, .int (v2 ||| ((1 : Int32) <<< ((M6.1 15 v3.toNatClampNeg) &&& 31)))), (4, .int (M.1 17 (((5 : Int32) * (M.1 15 v3.toNatClampNeg)) + v3).toNatClampNeg)), (0, .ref (ad 0))]) C 4 dX12_sentSteps_69 rfl rfl (by decide) rfl ?_
          refine V_goto C 6 dX12_sentSteps_72 (by decide) ?_
          refine V_drop (lv' := [(0, .ref (ad 0)), (1, .int (v1 + (M.1 17 (((5 : Int32) * (M.1 15 v3.toNatClampNeg)) + v3).toNatClampNeg))), (2, .int (v2 ||| ((1 : Int32) <<< ((M6.1 15 v3.toNatClampNeg) &&& 31)))), (3, .int (v3 + 1))]) [4, 1, 2, 0] rfl ?_
          exact ih (v1 + (M.1 17 (((5 : Int32) * (M.1 15 v3.toNatClampNeg)) + v3).toNatClampNeg)) (v2 ||| ((1 : Int32) <<< ((M6.1 15 v3.toNatClampNeg) &&& 31))) (v3 + 1) M6 h 
        · have h := h.2 q8
          refine V_ldc (v := (268435456 : Int32)) C dX12_sentSteps_50 m_X12_sentSteps_c207 ?_
          exact V_iret C hr hlk dX12_sentSteps_52 h
  unfold w_X12_sentSteps at h
  refine V_iconst (v := (0 : Int32)) C dX12_sentSteps_0 (by decide) ?_
  refine V_istore_n (lv' := [(1, .int (0 : Int32)), (0, .ref (ad 0))]) C dX12_sentSteps_1 rfl (by decide) rfl ?_
  refine V_iconst (v := (0 : Int32)) C dX12_sentSteps_2 (by decide) ?_
  refine V_istore_n (lv' := [(2, .int (0 : Int32)), (1, .int (0 : Int32)), (0, .ref (ad 0))]) C dX12_sentSteps_3 rfl (by decide) rfl ?_
  refine V_iconst (v := (1 : Int32)) C dX12_sentSteps_4 (by decide) ?_
  refine V_istore_n (lv' := [(3, .int (1 : Int32)), (2, .int (0 : Int32)), (1, .int (0 : Int32)), (0, .ref (ad 0))]) C dX12_sentSteps_5 rfl (by decide) rfl ?_
  refine V_drop (lv' := [(0, .ref (ad 0)), (1, .int (0 : Int32)), (2, .int (0 : Int32)), (3, .int (1 : Int32))]) [3, 2, 1, 0] rfl ?_
  obtain ⟨n0, h⟩ := h
  exact L6  n0 (0 : Int32) (0 : Int32) (1 : Int32) M h 
def w_X12_nextSent_39  (post : Int32 → Mm → Prop)  (v1 : Int32) (M : Mm) : Prop :=
    ((¬ v1 = 0) → ((vp_in v1 5) ∧ (∀ M3 : Mm, M3 = wI M 15 (upd (M.1 15) v1.toNatClampNeg ((M.1 15 v1.toNatClampNeg) + (1 : Int32))) → (post (1 : Int32) M3)))) ∧ ((v1 = 0) → (post (0 : Int32) M))
def w_X12_nextSent_7  (post : Int32 → Mm → Prop)  : Nat → Int32 → Mm → Prop
  | 0 => fun _ _ => False
  | n + 1 => fun v1 M =>
    ((v1 ≤ 0) → (w_X12_nextSent_39  post  v1 M)) ∧ ((¬ v1 ≤ 0) → ((vp_in v1 5) ∧ (((¬ (M.1 15 v1.toNatClampNeg) = ((M.1 0 3) - (1 : Int32))) → (w_X12_nextSent_39  post  v1 M)) ∧ (((M.1 15 v1.toNatClampNeg) = ((M.1 0 3) - (1 : Int32))) → (∀ M8 : Mm, M8 = wI M 15 (upd (M.1 15) v1.toNatClampNeg (0 : Int32)) → (w_X12_nextSent_7  post  n (v1 + (-1)) M8))))))
def w_X12_nextSent  (M : Mm) (post : Int32 → Mm → Prop) : Prop :=
  ∃ n0 : Nat, w_X12_nextSent_7  post  n0 ((M.1 0 1) - (1 : Int32)) M
theorem iw_X12_nextSent_X12 : ∀ w ∈ u_ws RX12 TX12 49, w ∈ wsX12_nextSent := by decide +kernel
theorem m_X12_nextSent_f53 : Cond.fieldLink RX12 53 "ShameYardsModel" "sent" "[I" ∈ wsX12_nextSent := by decide +kernel
theorem m_X12_nextSent_f156 : Cond.fieldLink RX12 156 "ShameYardsModel" "people" "I" ∈ wsX12_nextSent := by decide +kernel
theorem m_X12_nextSent_f150 : Cond.fieldLink RX12 150 "ShameYardsModel" "rooms" "I" ∈ wsX12_nextSent := by decide +kernel
set_option maxHeartbeats 4000000 in
set_option maxRecDepth 100000 in
theorem c_X12_nextSent (l : Launch) (D : va_G) (cy : Nat → ClassId) (ad : Nat → Nat) (A : Nat → Prop) (G : Gd A ad nsM)    (M : Mm) (post : Int32 → Mm → Prop) (h : w_X12_nextSent  M post) : CI l yX12_nextSent wsX12_nextSent (rmL 2) D (tysC cy) A ad nsM (ceM ad cy) ExM [.ref (ad 0)] M (fun r M' => (r = 0 ∨ r = 1) ∧ post r M') := by
  refine Met_V (cc := cX12_nextSent) (maxL := 2) (ret := (some .boolean)) (by decide) rfl G Lo_M ExM_ok (Nat.le_of_ble_eq_true rfl) rfl ?_
  intro p e s m args below meth c C hr hlk
  have C : Cx p s m args c cX12_nextSent 2 RX12 wsX12_nextSent D (tysC cy) A ad nsM (ceM ad cy) ExM := C
  have L39 : ∀  (v1 : Int32) (M : Mm), w_X12_nextSent_39  post  v1 M → V p l e (rmL 2) s m args below meth c (MQ below (va_Qi (fun r M' => (r = 0 ∨ r = 1) ∧ post r M') (Wd D (tysC cy) ad nsM (ceM ad cy) ExM) A) args s 0 0 A) D A ad nsM (ceM ad cy) 2 M [(0, .ref (ad 0)), (1, .int v1)] 39 [] := by
    intro  v1 M h 
    unfold w_X12_nextSent_39 at h
    refine V_iload_n C 1 dX12_nextSent_39 rfl ?_
    refine V_if_ne C 45 dX12_nextSent_40 (by decide) (fun q1 => ?_) (fun q1 => ?_)
    · have h := h.1 q1
      refine V_aload_n C 0 dX12_nextSent_45 rfl ?_
      refine V_get (k0 := 25) (Cn := RX12) (T := TX12) (N := 49) C (nsM_mem (by decide)) rfl iw_X12_nextSent_X12 (by decide) rfl m_X12_nextSent_f53 (ceM_0 _) rfl dX12_nextSent_46 ?_
      refine V_iload_n C 1 dX12_nextSent_49 rfl ?_
      refine V_dup2 C dX12_nextSent_50 rfl rfl ?_
      have g2 := h.1
      have h := h.2
      refine V_iald (t0 := 1) (L := 5) C (nsM_mem (by decide)) (fun _ => rfl) rfl g2 dX12_nextSent_51 ?_
      refine V_iconst (v := (1 : Int32)) C dX12_nextSent_52 (by decide) ?_
      refine V_iadd C dX12_nextSent_53 ?_
      refine V_iast (t0 := 1) (L := 5) C (nsM_mem (by decide)) (fun _ => rfl) rfl g2 dX12_nextSent_54 (fun M3 e4 => ?_)
      have h := h M3 e4
      refine V_iconst (v := (1 : Int32)) C dX12_nextSent_55 (by decide) ?_
      exact V_zret C hr hlk (Or.inr rfl) dX12_nextSent_56 h
    · have h := h.2 q1
      refine V_iconst (v := (0 : Int32)) C dX12_nextSent_43 (by decide) ?_
      exact V_zret C hr hlk (Or.inl rfl) dX12_nextSent_44 h
  have L7 : ∀  (n : Nat) (v1 : Int32) (M : Mm), w_X12_nextSent_7  post  n v1 M → V p l e (rmL 2) s m args below meth c (MQ below (va_Qi (fun r M' => (r = 0 ∨ r = 1) ∧ post r M') (Wd D (tysC cy) ad nsM (ceM ad cy) ExM) A) args s 0 0 A) D A ad nsM (ceM ad cy) 2 M [(0, .ref (ad 0)), (1, .int v1)] 7 [] := by
    intro  n
    induction n with
    | zero => intro v1 M h; exact h.elim
    | succ n ih =>
    intro v1 M h 
    unfold w_X12_nextSent_7 at h
    refine V_iload_n C 1 dX12_nextSent_7 rfl ?_
    refine V_if_le C 39 dX12_nextSent_8 (by decide) (fun q5 => ?_) (fun q5 => ?_)
    · have h := h.1 q5
      refine V_drop (lv' := [(0, .ref (ad 0)), (1, .int v1)]) [0, 1] rfl ?_
      exact L39  v1 M h 
    · have h := h.2 q5
      refine V_aload_n C 0 dX12_nextSent_11 rfl ?_
      refine V_get (k0 := 25) (Cn := RX12) (T := TX12) (N := 49) C (nsM_mem (by decide)) rfl iw_X12_nextSent_X12 (by decide) rfl m_X12_nextSent_f53 (ceM_0 _) rfl dX12_nextSent_12 ?_
      refine V_iload_n C 1 dX12_nextSent_15 rfl ?_
      have g6 := h.1
      have h := h.2
      refine V_iald (t0 := 1) (L := 5) C (nsM_mem (by decide)) (fun _ => rfl) rfl g6 dX12_nextSent_16 ?_
      refine V_aload_n C 0 dX12_nextSent_17 rfl ?_
      refine V_get (k0 := 3) (Cn := RX12) (T := TX12) (N := 49) C (nsM_mem (by decide)) rfl iw_X12_nextSent_X12 (by decide) rfl m_X12_nextSent_f156 (ceM_0 _) rfl dX12_nextSent_18 ?_
      refine V_iconst (v := (1 : Int32)) C dX12_nextSent_21 (by decide) ?_
      refine V_isub C dX12_nextSent_22 ?_
      refine V_icmp_ne C 39 dX12_nextSent_23 (by decide) (fun q7 => ?_) (fun q7 => ?_)
      · have h := h.1 q7
        refine V_drop (lv' := [(0, .ref (ad 0)), (1, .int v1)]) [0, 1] rfl ?_
        exact L39  v1 M h 
      · have h := h.2 q7
        refine V_aload_n C 0 dX12_nextSent_26 rfl ?_
        refine V_get (k0 := 25) (Cn := RX12) (T := TX12) (N := 49) C (nsM_mem (by decide)) rfl iw_X12_nextSent_X12 (by decide) rfl m_X12_nextSent_f53 (ceM_0 _) rfl dX12_nextSent_27 ?_
        refine V_iload_n C 1 dX12_nextSent_30 rfl ?_
        refine V_iconst (v := (0 : Int32)) C dX12_nextSent_31 (by decide) ?_
        refine V_iast (t0 := 1) (L := 5) C (nsM_mem (by decide)) (fun _ => rfl) rfl g6 dX12_nextSent_32 (fun M8 e9 => ?_)
        have h := h M8 e9
        refine V_iinc (v := (v1 + (-1))) (lv' := [(1, .int (v1 + (-1))), (0, .ref (ad 0))]) C 1 dX12_nextSent_33 rfl rfl (by decide) rfl ?_
        refine V_goto C 7 dX12_nextSent_36 (by decide) ?_
        refine V_drop (lv' := [(0, .ref (ad 0)), (1, .int (v1 + (-1)))]) [1, 0] rfl ?_
        exact ih (v1 + (-1)) M8 h 
  unfold w_X12_nextSent at h
  refine V_aload_n C 0 dX12_nextSent_0 rfl ?_
  refine V_get (k0 := 1) (Cn := RX12) (T := TX12) (N := 49) C (nsM_mem (by decide)) rfl iw_X12_nextSent_X12 (by decide) rfl m_X12_nextSent_f150 (ceM_0 _) rfl dX12_nextSent_1 ?_
  refine V_iconst (v := (1 : Int32)) C dX12_nextSent_4 (by decide) ?_
  refine V_isub C dX12_nextSent_5 ?_
  refine V_istore_n (lv' := [(1, .int ((M.1 0 1) - (1 : Int32))), (0, .ref (ad 0))]) C dX12_nextSent_6 rfl (by decide) rfl ?_
  refine V_drop (lv' := [(0, .ref (ad 0)), (1, .int ((M.1 0 1) - (1 : Int32)))]) [1, 0] rfl ?_
  obtain ⟨n0, h⟩ := h
  exact L7  n0 ((M.1 0 1) - (1 : Int32)) M h 
def w_X12_sendNow_12  (post : Int32 → Mm → Prop) (k2 : Int32 → Int32 → Mm → Prop) : Nat → Int32 → Int32 → Int32 → Mm → Prop
  | 0 => fun _ _ _ _ => False
  | n + 1 => fun v1 v2 v3 M =>
    (((M.1 0 1) ≤ v3) → (k2 v1 (v2 + 1) M)) ∧ ((¬ (M.1 0 1) ≤ v3) → ((vp_in v2 5) ∧ (w_X12_farFrom v2 (M.1 7 v2.toNatClampNeg) v3 M (fun r3 M4 => (vp_in (((5 : Int32) * v2) + v3) 25) ∧ (∀ M7 : Mm, M7 = wI M4 17 (upd (M4.1 17) (((5 : Int32) * v2) + v3).toNatClampNeg r3) → (w_X12_sendNow_12  post k2 n v1 v2 (v3 + 1) M7))))))
def w_X12_sendNow_137  (post : Int32 → Mm → Prop) (k86 : Int32 → Int32 → Int32 → Mm → Prop) (v1 : Int32) (v2 : Int32) (M : Mm) : Prop :=
    w_X12_nextSent  M (fun r9 M10 => k86 v1 v2 r9 M10)
def w_X12_sendNow_108  (post : Int32 → Mm → Prop) (k86 : Int32 → Int32 → Int32 → Mm → Prop) : Nat → Int32 → Int32 → Int32 → Mm → Prop
  | 0 => fun _ _ _ _ => False
  | n + 1 => fun v1 v2 v5 M =>
    (((M.1 0 1) ≤ v5) → (w_X12_sendNow_137  post k86 v1 v2 M)) ∧ ((¬ (M.1 0 1) ≤ v5) → ((vp_in v5 5) ∧ (∀ M14 : Mm, M14 = wI M 16 (upd (M.1 16) v5.toNatClampNeg (M.1 15 v5.toNatClampNeg)) → (w_X12_sendNow_108  post k86 n v1 v2 (v5 + 1) M14))))
def w_X12_sendNow_86  (post : Int32 → Mm → Prop)  : Nat → Int32 → Int32 → Int32 → Mm → Prop
  | 0 => fun _ _ _ _ => False
  | n + 1 => fun v1 v2 v3 M =>
    ((v3 = 0) → (((v1 ≤ 0) → (((¬ v2 = (268435456 : Int32)) → (post v2 M)) ∧ ((v2 = (268435456 : Int32)) → (post (-1 : Int32) M)))) ∧ ((¬ v1 ≤ 0) → ((vp_in (v1 - (10 : Int32)) 5) ∧ (post (M.1 16 (v1 - (10 : Int32)).toNatClampNeg) M))))) ∧ ((¬ v3 = 0) → (w_X12_sentSteps  M (fun r20 M21 => ((v2 ≤ r20) → (w_X12_sendNow_137  post (w_X12_sendNow_86  post  n) v1 v2 M21)) ∧ ((¬ v2 ≤ r20) → (∃ n0 : Nat, w_X12_sendNow_108  post (w_X12_sendNow_86  post  n) n0 v1 r20 (1 : Int32) M21)))))
def w_X12_sendNow_56  (post : Int32 → Mm → Prop)  : Nat → Int32 → Int32 → Mm → Prop
  | 0 => fun _ _ _ => False
  | n + 1 => fun v1 v2 M =>
    (((5 : Int32) ≤ v2) → (∃ n0 : Nat, w_X12_sendNow_86  post  n0 v1 (268435456 : Int32) (1 : Int32) M)) ∧ ((¬ (5 : Int32) ≤ v2) → ((vp_in v2 5) ∧ (∀ M26 : Mm, M26 = wI M 15 (upd (M.1 15) v2.toNatClampNeg (0 : Int32)) → (∀ M28 : Mm, M28 = wI M26 16 (upd (M26.1 16) v2.toNatClampNeg (-1 : Int32)) → (w_X12_sendNow_56  post  n v1 (v2 + 1) M28)))))
def w_X12_sendNow_2  (post : Int32 → Mm → Prop)  : Nat → Int32 → Int32 → Mm → Prop
  | 0 => fun _ _ _ => False
  | n + 1 => fun v1 v2 M =>
    (((M.1 0 3) ≤ v2) → (∃ n0 : Nat, w_X12_sendNow_56  post  n0 v1 (0 : Int32) M)) ∧ ((¬ (M.1 0 3) ≤ v2) → (∃ n0 : Nat, w_X12_sendNow_12  post (w_X12_sendNow_2  post  n) n0 v1 v2 (0 : Int32) M))
def w_X12_sendNow (x1 : Int32) (M : Mm) (post : Int32 → Mm → Prop) : Prop :=
  ∃ n0 : Nat, w_X12_sendNow_2  post  n0 x1 (0 : Int32) M
theorem iw_X12_sendNow_X12 : ∀ w ∈ u_ws RX12 TX12 49, w ∈ wsX12_sendNow := by decide +kernel
theorem m_X12_sendNow_f150 : Cond.fieldLink RX12 150 "ShameYardsModel" "rooms" "I" ∈ wsX12_sendNow := by decide +kernel
theorem m_X12_sendNow_f59 : Cond.fieldLink RX12 59 "ShameYardsModel" "farBy" "[I" ∈ wsX12_sendNow := by decide +kernel
theorem m_X12_sendNow_f28 : Cond.fieldLink RX12 28 "ShameYardsModel" "roomOf" "[I" ∈ wsX12_sendNow := by decide +kernel
theorem m_X12_sendNow_f56 : Cond.fieldLink RX12 56 "ShameYardsModel" "bestSent" "[I" ∈ wsX12_sendNow := by decide +kernel
theorem m_X12_sendNow_f53 : Cond.fieldLink RX12 53 "ShameYardsModel" "sent" "[I" ∈ wsX12_sendNow := by decide +kernel
theorem m_X12_sendNow_c207 : Jvm.Cond.constant RX12 207 (268435456) ∈ wsX12_sendNow := by decide +kernel
theorem m_X12_sendNow_f156 : Cond.fieldLink RX12 156 "ShameYardsModel" "people" "I" ∈ wsX12_sendNow := by decide +kernel
set_option maxHeartbeats 4000000 in
set_option maxRecDepth 100000 in
theorem c_X12_sendNow (l : Launch) (D : va_G) (cy : Nat → ClassId) (ad : Nat → Nat) (A : Nat → Prop) (G : Gd A ad nsM)   (x1 : Int32) (M : Mm) (post : Int32 → Mm → Prop) (h : w_X12_sendNow x1 M post) : CI l yX12_sendNow wsX12_sendNow (rmL 5) D (tysC cy) A ad nsM (ceM ad cy) ExM [.ref (ad 0), .int x1] M post := by
  refine Met_V (cc := cX12_sendNow) (maxL := 6) (ret := (some .int)) (by decide) rfl G Lo_M ExM_ok (Nat.le_of_ble_eq_true rfl) rfl ?_
  intro p e s m args below meth c C hr hlk
  have C : Cx p s m args c cX12_sendNow 6 RX12 wsX12_sendNow D (tysC cy) A ad nsM (ceM ad cy) ExM := C
  have L12 : ∀ (k2 : Int32 → Int32 → Mm → Prop) (hk2 : ∀ (v1 : Int32) (v2 : Int32) (M : Mm), k2 v1 v2 M → V p l e (rmL 5) s m args below meth c (MQ below (va_Qi post (Wd D (tysC cy) ad nsM (ceM ad cy) ExM) A) args s 0 0 A) D A ad nsM (ceM ad cy) 6 M [(0, .ref (ad 0)), (1, .int v1), (2, .int v2)] 2 []) (n : Nat) (v1 : Int32) (v2 : Int32) (v3 : Int32) (M : Mm), w_X12_sendNow_12  post k2 n v1 v2 v3 M → V p l e (rmL 5) s m args below meth c (MQ below (va_Qi post (Wd D (tysC cy) ad nsM (ceM ad cy) ExM) A) args s 0 0 A) D A ad nsM (ceM ad cy) 6 M [(0, .ref (ad 0)), (1, .int v1), (2, .int v2), (3, .int v3)] 12 [] := by
    intro k2 hk2 n
    induction n with
    | zero => intro v1 v2 v3 M h; exact h.elim
    | succ n ih =>
    intro v1 v2 v3 M h 
    unfold w_X12_sendNow_12 at h
    refine V_iload_n C 3 dX12_sendNow_12 rfl ?_
    refine V_aload_n C 0 dX12_sendNow_13 rfl ?_
    refine V_get (k0 := 1) (Cn := RX12) (T := TX12) (N := 49) C (nsM_mem (by decide)) rfl iw_X12_sendNow_X12 (by decide) rfl m_X12_sendNow_f150 (ceM_0 _) rfl dX12_sendNow_14 ?_
    refine V_icmp_ge C 48 dX12_sendNow_17 (by decide) (fun q1 => ?_) (fun q1 => ?_)
    · have h := h.1 q1
      refine V_iinc (v := (v2 + 1)) (lv' := [(2, .int (v2 + 1)), (0, .ref (ad 0)), (1, .int v1), (3, .int v3)]) C 2 dX12_sendNow_48 rfl rfl (by decide) rfl ?_
      refine V_goto C 2 dX12_sendNow_51 (by decide) ?_
      refine V_drop (lv' := [(0, .ref (ad 0)), (1, .int v1), (2, .int (v2 + 1))]) [1, 2, 0] rfl ?_
      exact hk2 v1 (v2 + 1) M h 
    · have h := h.2 q1
      refine V_aload_n C 0 dX12_sendNow_20 rfl ?_
      refine V_get (k0 := 27) (Cn := RX12) (T := TX12) (N := 49) C (nsM_mem (by decide)) rfl iw_X12_sendNow_X12 (by decide) rfl m_X12_sendNow_f59 (ceM_0 _) rfl dX12_sendNow_21 ?_
      refine V_iconst (v := (5 : Int32)) C dX12_sendNow_24 (by decide) ?_
      refine V_iload_n C 2 dX12_sendNow_25 rfl ?_
      refine V_imul C dX12_sendNow_26 ?_
      refine V_iload_n C 3 dX12_sendNow_27 rfl ?_
      refine V_iadd C dX12_sendNow_28 ?_
      refine V_aload_n C 0 dX12_sendNow_29 rfl ?_
      refine V_iload_n C 2 dX12_sendNow_30 rfl ?_
      refine V_aload_n C 0 dX12_sendNow_31 rfl ?_
      refine V_get (k0 := 10) (Cn := RX12) (T := TX12) (N := 49) C (nsM_mem (by decide)) rfl iw_X12_sendNow_X12 (by decide) rfl m_X12_sendNow_f28 (ceM_0 _) rfl dX12_sendNow_32 ?_
      refine V_iload_n C 2 dX12_sendNow_35 rfl ?_
      have g2 := h.1
      have h := h.2
      refine V_iald (t0 := 1) (L := 5) C (nsM_mem (by decide)) (fun _ => rfl) rfl g2 dX12_sendNow_36 ?_
      refine V_iload_n C 3 dX12_sendNow_37 rfl ?_
      refine V_callVi (q := (RX12, TX12, 49)) (rest := [.int (((5 : Int32) * v2) + v3), .ref (ad 17)]) C (nsM_mem (by decide)) (ceM_0 _) rfl (c_X12_farFrom l D cy ad A G v2 (M.1 7 v2.toNatClampNeg) v3 M _ h) (cwV 3 C.1.2.2.2.2 gX12_sendNow_X12_farFrom rfl rfl rfl (by decide +kernel) ⟨by decide, by decide⟩) rfl rfl (Nat.le_of_ble_eq_true rfl) dX12_sendNow_38 (fun r3 M4 h => ?_)
      have g6 := h.1
      have h := h.2
      refine V_iast (t0 := 1) (L := 25) C (nsM_mem (by decide)) (fun _ => rfl) rfl g6 dX12_sendNow_41 (fun M7 e8 => ?_)
      have h := h M7 e8
      refine V_iinc (v := (v3 + 1)) (lv' := [(3, .int (v3 + 1)), (0, .ref (ad 0)), (1, .int v1), (2, .int v2)]) C 3 dX12_sendNow_42 rfl rfl (by decide) rfl ?_
      refine V_goto C 12 dX12_sendNow_45 (by decide) ?_
      refine V_drop (lv' := [(0, .ref (ad 0)), (1, .int v1), (2, .int v2), (3, .int (v3 + 1))]) [1, 2, 3, 0] rfl ?_
      exact ih v1 v2 (v3 + 1) M7 h 
  have L137 : ∀ (k86 : Int32 → Int32 → Int32 → Mm → Prop) (hk86 : ∀ (v1 : Int32) (v2 : Int32) (v3 : Int32) (M : Mm), k86 v1 v2 v3 M → V p l e (rmL 5) s m args below meth c (MQ below (va_Qi post (Wd D (tysC cy) ad nsM (ceM ad cy) ExM) A) args s 0 0 A) D A ad nsM (ceM ad cy) 6 M [(0, .ref (ad 0)), (1, .int v1), (2, .int v2), (3, .int v3)] 86 []) (v1 : Int32) (v2 : Int32) (M : Mm), w_X12_sendNow_137  post k86 v1 v2 M → V p l e (rmL 5) s m args below meth c (MQ below (va_Qi post (Wd D (tysC cy) ad nsM (ceM ad cy) ExM) A) args s 0 0 A) D A ad nsM (ceM ad cy) 6 M [(0, .ref (ad 0)), (1, .int v1), (2, .int v2)] 137 [] := by
    intro k86 hk86 v1 v2 M h 
    unfold w_X12_sendNow_137 at h
    refine V_aload_n C 0 dX12_sendNow_137 rfl ?_
    refine V_callVi (q := (RX12, TX12, 49)) (rest := []) C (nsM_mem (by decide)) (ceM_0 _) rfl (c_X12_nextSent l D cy ad A G  M _ h) (cwV 0 C.1.2.2.2.2 gX12_sendNow_X12_nextSent rfl rfl rfl (by decide +kernel) ⟨by decide, by decide⟩) rfl rfl (Nat.le_of_ble_eq_true rfl) dX12_sendNow_138 (fun r9 M10 h => ?_)
    obtain ⟨z11, h⟩ := h
    refine V_istore_n (lv' := [(3, .int r9), (0, .ref (ad 0)), (1, .int v1), (2, .int v2)]) C dX12_sendNow_141 rfl (by decide) rfl ?_
    refine V_goto C 86 dX12_sendNow_142 (by decide) ?_
    refine V_drop (lv' := [(0, .ref (ad 0)), (1, .int v1), (2, .int v2), (3, .int r9)]) [1, 2, 3, 0] rfl ?_
    exact hk86 v1 v2 r9 M10 h 
  have L108 : ∀ (k86 : Int32 → Int32 → Int32 → Mm → Prop) (hk86 : ∀ (v1 : Int32) (v2 : Int32) (v3 : Int32) (M : Mm), k86 v1 v2 v3 M → V p l e (rmL 5) s m args below meth c (MQ below (va_Qi post (Wd D (tysC cy) ad nsM (ceM ad cy) ExM) A) args s 0 0 A) D A ad nsM (ceM ad cy) 6 M [(0, .ref (ad 0)), (1, .int v1), (2, .int v2), (3, .int v3)] 86 []) (n : Nat) (v1 : Int32) (v2 : Int32) (v5 : Int32) (M : Mm), w_X12_sendNow_108  post k86 n v1 v2 v5 M → V p l e (rmL 5) s m args below meth c (MQ below (va_Qi post (Wd D (tysC cy) ad nsM (ceM ad cy) ExM) A) args s 0 0 A) D A ad nsM (ceM ad cy) 6 M [(0, .ref (ad 0)), (1, .int v1), (2, .int v2), (5, .int v5)] 108 [] := by
    intro k86 hk86 n
    induction n with
    | zero => intro v1 v2 v5 M h; exact h.elim
    | succ n ih =>
    intro v1 v2 v5 M h 
    unfold w_X12_sendNow_108 at h
    refine V_iload C 3 dX12_sendNow_108 rfl ?_
    refine V_aload_n C 0 dX12_sendNow_110 rfl ?_
    refine V_get (k0 := 1) (Cn := RX12) (T := TX12) (N := 49) C (nsM_mem (by decide)) rfl iw_X12_sendNow_X12 (by decide) rfl m_X12_sendNow_f150 (ceM_0 _) rfl dX12_sendNow_111 ?_
    refine V_icmp_ge C 137 dX12_sendNow_114 (by decide) (fun q12 => ?_) (fun q12 => ?_)
    · have h := h.1 q12
      refine V_drop (lv' := [(0, .ref (ad 0)), (1, .int v1), (2, .int v2)]) [0, 1, 2] rfl ?_
      exact L137 k86 hk86 v1 v2 M h 
    · have h := h.2 q12
      refine V_aload_n C 0 dX12_sendNow_117 rfl ?_
      refine V_get (k0 := 26) (Cn := RX12) (T := TX12) (N := 49) C (nsM_mem (by decide)) rfl iw_X12_sendNow_X12 (by decide) rfl m_X12_sendNow_f56 (ceM_0 _) rfl dX12_sendNow_118 ?_
      refine V_iload C 3 dX12_sendNow_121 rfl ?_
      refine V_aload_n C 0 dX12_sendNow_123 rfl ?_
      refine V_get (k0 := 25) (Cn := RX12) (T := TX12) (N := 49) C (nsM_mem (by decide)) rfl iw_X12_sendNow_X12 (by decide) rfl m_X12_sendNow_f53 (ceM_0 _) rfl dX12_sendNow_124 ?_
      refine V_iload C 3 dX12_sendNow_127 rfl ?_
      have g13 := h.1
      have h := h.2
      refine V_iald (t0 := 1) (L := 5) C (nsM_mem (by decide)) (fun _ => rfl) rfl g13 dX12_sendNow_129 ?_
      refine V_iast (t0 := 1) (L := 5) C (nsM_mem (by decide)) (fun _ => rfl) rfl g13 dX12_sendNow_130 (fun M14 e15 => ?_)
      have h := h M14 e15
      refine V_iinc (v := (v5 + 1)) (lv' := [(5, .int (v5 + 1)), (0, .ref (ad 0)), (1, .int v1), (2, .int v2)]) C 3 dX12_sendNow_131 rfl rfl (by decide) rfl ?_
      refine V_goto C 108 dX12_sendNow_134 (by decide) ?_
      refine V_drop (lv' := [(0, .ref (ad 0)), (1, .int v1), (2, .int v2), (5, .int (v5 + 1))]) [1, 2, 3, 0] rfl ?_
      exact ih v1 v2 (v5 + 1) M14 h 
  have L86 : ∀  (n : Nat) (v1 : Int32) (v2 : Int32) (v3 : Int32) (M : Mm), w_X12_sendNow_86  post  n v1 v2 v3 M → V p l e (rmL 5) s m args below meth c (MQ below (va_Qi post (Wd D (tysC cy) ad nsM (ceM ad cy) ExM) A) args s 0 0 A) D A ad nsM (ceM ad cy) 6 M [(0, .ref (ad 0)), (1, .int v1), (2, .int v2), (3, .int v3)] 86 [] := by
    intro  n
    induction n with
    | zero => intro v1 v2 v3 M h; exact h.elim
    | succ n ih =>
    intro v1 v2 v3 M h 
    unfold w_X12_sendNow_86 at h
    refine V_iload_n C 3 dX12_sendNow_86 rfl ?_
    refine V_if_eq C 145 dX12_sendNow_87 (by decide) (fun q16 => ?_) (fun q16 => ?_)
    · have h := h.1 q16
      refine V_iload_n C 1 dX12_sendNow_145 rfl ?_
      refine V_if_le C 161 dX12_sendNow_146 (by decide) (fun q17 => ?_) (fun q17 => ?_)
      · have h := h.1 q17
        refine V_iload_n C 2 dX12_sendNow_161 rfl ?_
        refine V_ldc (v := (268435456 : Int32)) C dX12_sendNow_162 m_X12_sendNow_c207 ?_
        refine V_icmp_ne C 171 dX12_sendNow_164 (by decide) (fun q18 => ?_) (fun q18 => ?_)
        · have h := h.1 q18
          refine V_iload_n C 2 dX12_sendNow_171 rfl ?_
          exact V_iret C hr hlk dX12_sendNow_172 h
        · have h := h.2 q18
          refine V_iconst (v := (-1 : Int32)) C dX12_sendNow_167 (by decide) ?_
          refine V_goto C 172 dX12_sendNow_168 (by decide) ?_
          exact V_iret C hr hlk dX12_sendNow_172 h
      · have h := h.2 q17
        refine V_aload_n C 0 dX12_sendNow_149 rfl ?_
        refine V_get (k0 := 26) (Cn := RX12) (T := TX12) (N := 49) C (nsM_mem (by decide)) rfl iw_X12_sendNow_X12 (by decide) rfl m_X12_sendNow_f56 (ceM_0 _) rfl dX12_sendNow_150 ?_
        refine V_iload_n C 1 dX12_sendNow_153 rfl ?_
        refine V_bipush (v := (10 : Int32)) C dX12_sendNow_154 (by decide) ?_
        refine V_isub C dX12_sendNow_156 ?_
        have g19 := h.1
        have h := h.2
        refine V_iald (t0 := 1) (L := 5) C (nsM_mem (by decide)) (fun _ => rfl) rfl g19 dX12_sendNow_157 ?_
        refine V_goto C 172 dX12_sendNow_158 (by decide) ?_
        exact V_iret C hr hlk dX12_sendNow_172 h
    · have h := h.2 q16
      refine V_aload_n C 0 dX12_sendNow_90 rfl ?_
      refine V_callVi (q := (RX12, TX12, 49)) (rest := []) C (nsM_mem (by decide)) (ceM_0 _) rfl (c_X12_sentSteps l D cy ad A G  M _ h) (cwV 0 C.1.2.2.2.2 gX12_sendNow_X12_sentSteps rfl rfl rfl (by decide +kernel) ⟨by decide, by decide⟩) rfl rfl (Nat.le_of_ble_eq_true rfl) dX12_sendNow_91 (fun r20 M21 h => ?_)
      refine V_istore (lv' := [(4, .int r20), (0, .ref (ad 0)), (1, .int v1), (2, .int v2), (3, .int v3)]) C dX12_sendNow_94 (by decide) rfl ?_
      refine V_iload C 0 dX12_sendNow_96 rfl ?_
      refine V_iload_n C 3 dX12_sendNow_98 rfl ?_
      refine V_icmp_ge C 137 dX12_sendNow_99 (by decide) (fun q23 => ?_) (fun q23 => ?_)
      · have h := h.1 q23
        refine V_drop (lv' := [(0, .ref (ad 0)), (1, .int v1), (2, .int v2)]) [1, 2, 3] rfl ?_
        exact L137 (w_X12_sendNow_86  post  n) ih v1 v2 M21 h 
      · have h := h.2 q23
        refine V_iload C 0 dX12_sendNow_102 rfl ?_
        refine V_istore_n (lv' := [(2, .int r20), (4, .int r20), (0, .ref (ad 0)), (1, .int v1), (3, .int v3)]) C dX12_sendNow_104 rfl (by decide) rfl ?_
        refine V_iconst (v := (1 : Int32)) C dX12_sendNow_105 (by decide) ?_
        refine V_istore (lv' := [(5, .int (1 : Int32)), (2, .int r20), (4, .int r20), (0, .ref (ad 0)), (1, .int v1), (3, .int v3)]) C dX12_sendNow_106 (by decide) rfl ?_
        refine V_drop (lv' := [(0, .ref (ad 0)), (1, .int v1), (2, .int r20), (5, .int (1 : Int32))]) [3, 4, 1, 0] rfl ?_
        obtain ⟨n0, h⟩ := h
        exact L108 (w_X12_sendNow_86  post  n) ih n0 v1 r20 (1 : Int32) M21 h 
  have L56 : ∀  (n : Nat) (v1 : Int32) (v2 : Int32) (M : Mm), w_X12_sendNow_56  post  n v1 v2 M → V p l e (rmL 5) s m args below meth c (MQ below (va_Qi post (Wd D (tysC cy) ad nsM (ceM ad cy) ExM) A) args s 0 0 A) D A ad nsM (ceM ad cy) 6 M [(0, .ref (ad 0)), (1, .int v1), (2, .int v2)] 56 [] := by
    intro  n
    induction n with
    | zero => intro v1 v2 M h; exact h.elim
    | succ n ih =>
    intro v1 v2 M h 
    unfold w_X12_sendNow_56 at h
    refine V_iload_n C 2 dX12_sendNow_56 rfl ?_
    refine V_iconst (v := (5 : Int32)) C dX12_sendNow_57 (by decide) ?_
    refine V_icmp_ge C 81 dX12_sendNow_58 (by decide) (fun q24 => ?_) (fun q24 => ?_)
    · have h := h.1 q24
      refine V_ldc (v := (268435456 : Int32)) C dX12_sendNow_81 m_X12_sendNow_c207 ?_
      refine V_istore_n (lv' := [(2, .int (268435456 : Int32)), (0, .ref (ad 0)), (1, .int v1)]) C dX12_sendNow_83 rfl (by decide) rfl ?_
      refine V_iconst (v := (1 : Int32)) C dX12_sendNow_84 (by decide) ?_
      refine V_istore_n (lv' := [(3, .int (1 : Int32)), (2, .int (268435456 : Int32)), (0, .ref (ad 0)), (1, .int v1)]) C dX12_sendNow_85 rfl (by decide) rfl ?_
      refine V_drop (lv' := [(0, .ref (ad 0)), (1, .int v1), (2, .int (268435456 : Int32)), (3, .int (1 : Int32))]) [2, 3, 1, 0] rfl ?_
      obtain ⟨n0, h⟩ := h
      exact L86  n0 v1 (268435456 : Int32) (1 : Int32) M h 
    · have h := h.2 q24
      refine V_aload_n C 0 dX12_sendNow_61 rfl ?_
      refine V_get (k0 := 25) (Cn := RX12) (T := TX12) (N := 49) C (nsM_mem (by decide)) rfl iw_X12_sendNow_X12 (by decide) rfl m_X12_sendNow_f53 (ceM_0 _) rfl dX12_sendNow_62 ?_
      refine V_iload_n C 2 dX12_sendNow_65 rfl ?_
      refine V_iconst (v := (0 : Int32)) C dX12_sendNow_66 (by decide) ?_
      have g25 := h.1
      have h := h.2
      refine V_iast (t0 := 1) (L := 5) C (nsM_mem (by decide)) (fun _ => rfl) rfl g25 dX12_sendNow_67 (fun M26 e27 => ?_)
      have h := h M26 e27
      refine V_aload_n C 0 dX12_sendNow_68 rfl ?_
      refine V_get (k0 := 26) (Cn := RX12) (T := TX12) (N := 49) C (nsM_mem (by decide)) rfl iw_X12_sendNow_X12 (by decide) rfl m_X12_sendNow_f56 (ceM_0 _) rfl dX12_sendNow_69 ?_
      refine V_iload_n C 2 dX12_sendNow_72 rfl ?_
      refine V_iconst (v := (-1 : Int32)) C dX12_sendNow_73 (by decide) ?_
      refine V_iast (t0 := 1) (L := 5) C (nsM_mem (by decide)) (fun _ => rfl) rfl g25 dX12_sendNow_74 (fun M28 e29 => ?_)
      have h := h M28 e29
      refine V_iinc (v := (v2 + 1)) (lv' := [(2, .int (v2 + 1)), (0, .ref (ad 0)), (1, .int v1)]) C 2 dX12_sendNow_75 rfl rfl (by decide) rfl ?_
      refine V_goto C 56 dX12_sendNow_78 (by decide) ?_
      refine V_drop (lv' := [(0, .ref (ad 0)), (1, .int v1), (2, .int (v2 + 1))]) [1, 2, 0] rfl ?_
      exact ih v1 (v2 + 1) M28 h 
  have L2 : ∀  (n : Nat) (v1 : Int32) (v2 : Int32) (M : Mm), w_X12_sendNow_2  post  n v1 v2 M → V p l e (rmL 5) s m args below meth c (MQ below (va_Qi post (Wd D (tysC cy) ad nsM (ceM ad cy) ExM) A) args s 0 0 A) D A ad nsM (ceM ad cy) 6 M [(0, .ref (ad 0)), (1, .int v1), (2, .int v2)] 2 [] := by
    intro  n
    induction n with
    | zero => intro v1 v2 M h; exact h.elim
    | succ n ih =>
    intro v1 v2 M h 
    unfold w_X12_sendNow_2 at h
    refine V_iload_n C 2 dX12_sendNow_2 rfl ?_
    refine V_aload_n C 0 dX12_sendNow_3 rfl ?_
    refine V_get (k0 := 3) (Cn := RX12) (T := TX12) (N := 49) C (nsM_mem (by decide)) rfl iw_X12_sendNow_X12 (by decide) rfl m_X12_sendNow_f156 (ceM_0 _) rfl dX12_sendNow_4 ?_
    refine V_icmp_ge C 54 dX12_sendNow_7 (by decide) (fun q30 => ?_) (fun q30 => ?_)
    · have h := h.1 q30
      refine V_iconst (v := (0 : Int32)) C dX12_sendNow_54 (by decide) ?_
      refine V_istore_n (lv' := [(2, .int (0 : Int32)), (0, .ref (ad 0)), (1, .int v1)]) C dX12_sendNow_55 rfl (by decide) rfl ?_
      refine V_drop (lv' := [(0, .ref (ad 0)), (1, .int v1), (2, .int (0 : Int32))]) [1, 2, 0] rfl ?_
      obtain ⟨n0, h⟩ := h
      exact L56  n0 v1 (0 : Int32) M h 
    · have h := h.2 q30
      refine V_iconst (v := (0 : Int32)) C dX12_sendNow_10 (by decide) ?_
      refine V_istore_n (lv' := [(3, .int (0 : Int32)), (0, .ref (ad 0)), (1, .int v1), (2, .int v2)]) C dX12_sendNow_11 rfl (by decide) rfl ?_
      refine V_drop (lv' := [(0, .ref (ad 0)), (1, .int v1), (2, .int v2), (3, .int (0 : Int32))]) [1, 2, 3, 0] rfl ?_
      obtain ⟨n0, h⟩ := h
      exact L12 (w_X12_sendNow_2  post  n) ih n0 v1 v2 (0 : Int32) M h 
  unfold w_X12_sendNow at h
  refine V_iconst (v := (0 : Int32)) C dX12_sendNow_0 (by decide) ?_
  refine V_istore_n (lv' := [(2, .int (0 : Int32)), (0, .ref (ad 0)), (1, .int x1)]) C dX12_sendNow_1 rfl (by decide) rfl ?_
  refine V_drop (lv' := [(0, .ref (ad 0)), (1, .int x1), (2, .int (0 : Int32))]) [1, 2, 0] rfl ?_
  obtain ⟨n0, h⟩ := h
  exact L2  n0 x1 (0 : Int32) M h 
def w_X12_send_18  (post : Int32 → Mm → Prop)  (v1 : Int32) (M : Mm) : Prop :=
    (((M.1 0 3) = 0) → (post (-103 : Int32) M)) ∧ ((¬ (M.1 0 3) = 0) → (((¬ (M.1 0 13) = (30 : Int32)) → (∀ M3 : Mm, M3 = wI M 0 (upd (M.1 0) 13 ((M.1 0 13) + (1 : Int32))) → (w_X12_sendNow v1 M3 (fun r5 M6 => post r5 M6)))) ∧ (((M.1 0 13) = (30 : Int32)) → (post (-103 : Int32) M))))
def w_X12_send (x1 : Int32) (M : Mm) (post : Int32 → Mm → Prop) : Prop :=
  ((x1 = 0) → (w_X12_send_18  post  x1 M)) ∧ ((¬ x1 = 0) → (w_X12_within x1 (11 : Int32) (14 : Int32) M (fun r9 M10 => ((¬ r9 = 0) → (w_X12_send_18  post  x1 M10)) ∧ ((r9 = 0) → (post (-102 : Int32) M10)))))
theorem iw_X12_send_X12 : ∀ w ∈ u_ws RX12 TX12 49, w ∈ wsX12_send := by decide +kernel
theorem m_X12_send_f156 : Cond.fieldLink RX12 156 "ShameYardsModel" "people" "I" ∈ wsX12_send := by decide +kernel
theorem m_X12_send_f235 : Cond.fieldLink RX12 235 "ShameYardsModel" "asks" "I" ∈ wsX12_send := by decide +kernel
set_option maxHeartbeats 4000000 in
set_option maxRecDepth 100000 in
theorem c_X12_send (l : Launch) (D : va_G) (cy : Nat → ClassId) (ad : Nat → Nat) (A : Nat → Prop) (G : Gd A ad nsM)   (x1 : Int32) (M : Mm) (post : Int32 → Mm → Prop) (h : w_X12_send x1 M post) : CI l yX12_send wsX12_send (rmL 6) D (tysC cy) A ad nsM (ceM ad cy) ExM [.ref (ad 0), .int x1] M post := by
  refine Met_V (cc := cX12_send) (maxL := 2) (ret := (some .int)) (by decide) rfl G Lo_M ExM_ok (Nat.le_of_ble_eq_true rfl) rfl ?_
  intro p e s m args below meth c C hr hlk
  have C : Cx p s m args c cX12_send 2 RX12 wsX12_send D (tysC cy) A ad nsM (ceM ad cy) ExM := C
  have L18 : ∀  (v1 : Int32) (M : Mm), w_X12_send_18  post  v1 M → V p l e (rmL 6) s m args below meth c (MQ below (va_Qi post (Wd D (tysC cy) ad nsM (ceM ad cy) ExM) A) args s 0 0 A) D A ad nsM (ceM ad cy) 2 M [(0, .ref (ad 0)), (1, .int v1)] 18 [] := by
    intro  v1 M h 
    unfold w_X12_send_18 at h
    refine V_aload_n C 0 dX12_send_18 rfl ?_
    refine V_get (k0 := 3) (Cn := RX12) (T := TX12) (N := 49) C (nsM_mem (by decide)) rfl iw_X12_send_X12 (by decide) rfl m_X12_send_f156 (ceM_0 _) rfl dX12_send_19 ?_
    refine V_if_eq C 34 dX12_send_22 (by decide) (fun q1 => ?_) (fun q1 => ?_)
    · have h := h.1 q1
      refine V_bipush (v := (-103 : Int32)) C dX12_send_34 (by decide) ?_
      exact V_iret C hr hlk dX12_send_36 h
    · have h := h.2 q1
      refine V_aload_n C 0 dX12_send_25 rfl ?_
      refine V_get (k0 := 13) (Cn := RX12) (T := TX12) (N := 49) C (nsM_mem (by decide)) rfl iw_X12_send_X12 (by decide) rfl m_X12_send_f235 (ceM_0 _) rfl dX12_send_26 ?_
      refine V_bipush (v := (30 : Int32)) C dX12_send_29 (by decide) ?_
      refine V_icmp_ne C 37 dX12_send_31 (by decide) (fun q2 => ?_) (fun q2 => ?_)
      · have h := h.1 q2
        refine V_aload_n C 0 dX12_send_37 rfl ?_
        refine V_dup C dX12_send_38 rfl ?_
        refine V_get (k0 := 13) (Cn := RX12) (T := TX12) (N := 49) C (nsM_mem (by decide)) rfl iw_X12_send_X12 (by decide) rfl m_X12_send_f235 (ceM_0 _) rfl dX12_send_39 ?_
        refine V_iconst (v := (1 : Int32)) C dX12_send_42 (by decide) ?_
        refine V_iadd C dX12_send_43 ?_
        refine V_putI (k0 := 13) (Cn := RX12) (T := TX12) (N := 49) C (nsM_mem (by decide)) rfl iw_X12_send_X12 (by decide) rfl m_X12_send_f235 tyX12_ok nmX12 rfl (show _ = some FieldType.int by decide +kernel) rfl rfl (Nat.le_of_ble_eq_true rfl) (ceM_0 _) (stM0_13  _ _) dX12_send_44 (fun M3 e4 => ?_)
        have h := h M3 e4
        refine V_aload_n C 0 dX12_send_47 rfl ?_
        refine V_iload_n C 1 dX12_send_48 rfl ?_
        refine V_callVi (q := (RX12, TX12, 49)) (rest := []) C (nsM_mem (by decide)) (ceM_0 _) rfl (c_X12_sendNow l D cy ad A G v1 M3 _ h) (cwV 1 C.1.2.2.2.2 gX12_send_X12_sendNow rfl rfl rfl (by decide +kernel) ⟨by decide, by decide⟩) rfl rfl (Nat.le_of_ble_eq_true rfl) dX12_send_49 (fun r5 M6 h => ?_)
        exact V_iret C hr hlk dX12_send_52 h
      · have h := h.2 q2
        refine V_bipush (v := (-103 : Int32)) C dX12_send_34 (by decide) ?_
        exact V_iret C hr hlk dX12_send_36 h
  unfold w_X12_send at h
  refine V_iload_n C 1 dX12_send_0 rfl ?_
  refine V_if_eq C 18 dX12_send_1 (by decide) (fun q8 => ?_) (fun q8 => ?_)
  · have h := h.1 q8
    refine V_drop (lv' := [(0, .ref (ad 0)), (1, .int x1)]) [0, 1] rfl ?_
    exact L18  x1 M h 
  · have h := h.2 q8
    refine V_iload_n C 1 dX12_send_4 rfl ?_
    refine V_bipush (v := (11 : Int32)) C dX12_send_5 (by decide) ?_
    refine V_bipush (v := (14 : Int32)) C dX12_send_7 (by decide) ?_
    refine V_callSi (rest := []) C (c_X12_within l D cy ad A G x1 (11 : Int32) (14 : Int32) M _ h) (va_cwS 3 C.1.2.2.2.2 gX12_send_X12_within rfl rfl rfl (by decide +kernel) ⟨by decide, by decide⟩) rfl rfl (Nat.le_of_ble_eq_true rfl) dX12_send_9 (fun r9 M10 h => ?_)
    obtain ⟨z11, h⟩ := h
    refine V_if_ne C 18 dX12_send_12 (by decide) (fun q12 => ?_) (fun q12 => ?_)
    · have h := h.1 q12
      refine V_drop (lv' := [(0, .ref (ad 0)), (1, .int x1)]) [0, 1] rfl ?_
      exact L18  x1 M10 h 
    · have h := h.2 q12
      refine V_bipush (v := (-102 : Int32)) C dX12_send_15 (by decide) ?_
      exact V_iret C hr hlk dX12_send_17 h
def w_X12_arePairs_46  (post : Int32 → Mm → Prop) (k4 : Int32 → Int32 → Mm → Prop) (v2 : Int32) (M : Mm) : Prop :=
    k4 (1 : Int32) (v2 + 1) M
def w_X12_arePairs_4  (post : Int32 → Mm → Prop)  : Nat → Int32 → Int32 → Mm → Prop
  | 0 => fun _ _ _ => False
  | n + 1 => fun v1 v2 M =>
    (((M.1 0 3) ≤ v2) → (post v1 M)) ∧ ((¬ (M.1 0 3) ≤ v2) → ((vp_in v2 5) ∧ (((v1 = 0) → (w_X12_arePairs_4  post  n (0 : Int32) (v2 + 1) M)) ∧ ((¬ v1 = 0) → (((((M.1 18 v2.toNatClampNeg) - (1 : Int32)) < 0) → (w_X12_arePairs_46  post (w_X12_arePairs_4  post  n) v2 M)) ∧ ((¬ ((M.1 18 v2.toNatClampNeg) - (1 : Int32)) < 0) → (((((M.1 18 v2.toNatClampNeg) - (1 : Int32)) = v2) → (w_X12_arePairs_4  post  n (0 : Int32) (v2 + 1) M)) ∧ ((¬ ((M.1 18 v2.toNatClampNeg) - (1 : Int32)) = v2) → ((vp_in ((M.1 18 v2.toNatClampNeg) - (1 : Int32)) 5) ∧ (((¬ (M.1 18 ((M.1 18 v2.toNatClampNeg) - (1 : Int32)).toNatClampNeg) = (v2 + (1 : Int32))) → (w_X12_arePairs_4  post  n (0 : Int32) (v2 + 1) M)) ∧ (((M.1 18 ((M.1 18 v2.toNatClampNeg) - (1 : Int32)).toNatClampNeg) = (v2 + (1 : Int32))) → (w_X12_arePairs_46  post (w_X12_arePairs_4  post  n) v2 M))))))))))))
def w_X12_arePairs  (M : Mm) (post : Int32 → Mm → Prop) : Prop :=
  ∃ n0 : Nat, w_X12_arePairs_4  post  n0 (1 : Int32) (0 : Int32) M
theorem iw_X12_arePairs_X12 : ∀ w ∈ u_ws RX12 TX12 49, w ∈ wsX12_arePairs := by decide +kernel
theorem m_X12_arePairs_f156 : Cond.fieldLink RX12 156 "ShameYardsModel" "people" "I" ∈ wsX12_arePairs := by decide +kernel
theorem m_X12_arePairs_f62 : Cond.fieldLink RX12 62 "ShameYardsModel" "mate" "[I" ∈ wsX12_arePairs := by decide +kernel
set_option maxHeartbeats 4000000 in
set_option maxRecDepth 100000 in
theorem c_X12_arePairs (l : Launch) (D : va_G) (cy : Nat → ClassId) (ad : Nat → Nat) (A : Nat → Prop) (G : Gd A ad nsM)    (M : Mm) (post : Int32 → Mm → Prop) (h : w_X12_arePairs  M post) : CI l yX12_arePairs wsX12_arePairs (rmL 2) D (tysC cy) A ad nsM (ceM ad cy) ExM [.ref (ad 0)] M (fun r M' => (r = 0 ∨ r = 1) ∧ post r M') := by
  refine Met_V (cc := cX12_arePairs) (maxL := 4) (ret := (some .boolean)) (by decide) rfl G Lo_M ExM_ok (Nat.le_of_ble_eq_true rfl) rfl ?_
  intro p e s m args below meth c C hr hlk
  have C : Cx p s m args c cX12_arePairs 4 RX12 wsX12_arePairs D (tysC cy) A ad nsM (ceM ad cy) ExM := C
  have L46 : ∀ (k4 : Int32 → Int32 → Mm → Prop) (hk4 : ∀ (v1 : Int32) (v2 : Int32) (M : Mm), k4 v1 v2 M → (v1 = 0 ∨ v1 = 1) → V p l e (rmL 2) s m args below meth c (MQ below (va_Qi (fun r M' => (r = 0 ∨ r = 1) ∧ post r M') (Wd D (tysC cy) ad nsM (ceM ad cy) ExM) A) args s 0 0 A) D A ad nsM (ceM ad cy) 4 M [(0, .ref (ad 0)), (1, .int v1), (2, .int v2)] 4 []) (v2 : Int32) (M : Mm), w_X12_arePairs_46  post k4 v2 M → V p l e (rmL 2) s m args below meth c (MQ below (va_Qi (fun r M' => (r = 0 ∨ r = 1) ∧ post r M') (Wd D (tysC cy) ad nsM (ceM ad cy) ExM) A) args s 0 0 A) D A ad nsM (ceM ad cy) 4 M [(0, .ref (ad 0)), (2, .int v2)] 46 [] := by
    intro k4 hk4 v2 M h 
    unfold w_X12_arePairs_46 at h
    refine V_iconst (v := (1 : Int32)) C dX12_arePairs_46 (by decide) ?_
    refine V_goto C 51 dX12_arePairs_47 (by decide) ?_
    refine V_istore_n (lv' := [(1, .int (1 : Int32)), (0, .ref (ad 0)), (2, .int v2)]) C dX12_arePairs_51 rfl (by decide) rfl ?_
    refine V_iinc (v := (v2 + 1)) (lv' := [(2, .int (v2 + 1)), (1, .int (1 : Int32)), (0, .ref (ad 0))]) C 2 dX12_arePairs_52 rfl rfl (by decide) rfl ?_
    refine V_goto C 4 dX12_arePairs_55 (by decide) ?_
    refine V_drop (lv' := [(0, .ref (ad 0)), (1, .int (1 : Int32)), (2, .int (v2 + 1))]) [2, 1, 0] rfl ?_
    exact hk4 (1 : Int32) (v2 + 1) M h (Or.inr rfl)
  have L4 : ∀  (n : Nat) (v1 : Int32) (v2 : Int32) (M : Mm), w_X12_arePairs_4  post  n v1 v2 M → (v1 = 0 ∨ v1 = 1) → V p l e (rmL 2) s m args below meth c (MQ below (va_Qi (fun r M' => (r = 0 ∨ r = 1) ∧ post r M') (Wd D (tysC cy) ad nsM (ceM ad cy) ExM) A) args s 0 0 A) D A ad nsM (ceM ad cy) 4 M [(0, .ref (ad 0)), (1, .int v1), (2, .int v2)] 4 [] := by
    intro  n
    induction n with
    | zero => intro v1 v2 M h; exact h.elim
    | succ n ih =>
    intro v1 v2 M h zv1
    unfold w_X12_arePairs_4 at h
    refine V_iload_n C 2 dX12_arePairs_4 rfl ?_
    refine V_aload_n C 0 dX12_arePairs_5 rfl ?_
    refine V_get (k0 := 3) (Cn := RX12) (T := TX12) (N := 49) C (nsM_mem (by decide)) rfl iw_X12_arePairs_X12 (by decide) rfl m_X12_arePairs_f156 (ceM_0 _) rfl dX12_arePairs_6 ?_
    refine V_icmp_ge C 58 dX12_arePairs_9 (by decide) (fun q1 => ?_) (fun q1 => ?_)
    · have h := h.1 q1
      refine V_iload_n C 1 dX12_arePairs_58 rfl ?_
      exact V_zret C hr hlk zv1 dX12_arePairs_59 h
    · have h := h.2 q1
      refine V_aload_n C 0 dX12_arePairs_12 rfl ?_
      refine V_get (k0 := 28) (Cn := RX12) (T := TX12) (N := 49) C (nsM_mem (by decide)) rfl iw_X12_arePairs_X12 (by decide) rfl m_X12_arePairs_f62 (ceM_0 _) rfl dX12_arePairs_13 ?_
      refine V_iload_n C 2 dX12_arePairs_16 rfl ?_
      have g2 := h.1
      have h := h.2
      refine V_iald (t0 := 1) (L := 5) C (nsM_mem (by decide)) (fun _ => rfl) rfl g2 dX12_arePairs_17 ?_
      refine V_iconst (v := (1 : Int32)) C dX12_arePairs_18 (by decide) ?_
      refine V_isub C dX12_arePairs_19 ?_
      refine V_istore_n (lv' := [(3, .int ((M.1 18 v2.toNatClampNeg) - (1 : Int32))), (0, .ref (ad 0)), (1, .int v1), (2, .int v2)]) C dX12_arePairs_20 rfl (by decide) rfl ?_
      refine V_iload_n C 2 dX12_arePairs_21 rfl ?_
      refine V_if_eq C 50 dX12_arePairs_22 (by decide) (fun q3 => ?_) (fun q3 => ?_)
      · have h := h.1 q3
        refine V_iconst (v := (0 : Int32)) C dX12_arePairs_50 (by decide) ?_
        refine V_istore_n (lv' := [(1, .int (0 : Int32)), (3, .int ((M.1 18 v2.toNatClampNeg) - (1 : Int32))), (0, .ref (ad 0)), (2, .int v2)]) C dX12_arePairs_51 rfl (by decide) rfl ?_
        refine V_iinc (v := (v2 + 1)) (lv' := [(2, .int (v2 + 1)), (1, .int (0 : Int32)), (3, .int ((M.1 18 v2.toNatClampNeg) - (1 : Int32))), (0, .ref (ad 0))]) C 3 dX12_arePairs_52 rfl rfl (by decide) rfl ?_
        refine V_goto C 4 dX12_arePairs_55 (by decide) ?_
        refine V_drop (lv' := [(0, .ref (ad 0)), (1, .int (0 : Int32)), (2, .int (v2 + 1))]) [3, 1, 0] rfl ?_
        exact ih (0 : Int32) (v2 + 1) M h (Or.inl rfl)
      · have h := h.2 q3
        refine V_iload_n C 0 dX12_arePairs_25 rfl ?_
        refine V_if_lt C 46 dX12_arePairs_26 (by decide) (fun q4 => ?_) (fun q4 => ?_)
        · have h := h.1 q4
          refine V_drop (lv' := [(0, .ref (ad 0)), (2, .int v2)]) [1, 3] rfl ?_
          exact L46 (w_X12_arePairs_4  post  n) ih v2 M h 
        · have h := h.2 q4
          refine V_iload_n C 0 dX12_arePairs_29 rfl ?_
          refine V_iload_n C 3 dX12_arePairs_30 rfl ?_
          refine V_icmp_eq C 50 dX12_arePairs_31 (by decide) (fun q5 => ?_) (fun q5 => ?_)
          · have h := h.1 q5
            refine V_iconst (v := (0 : Int32)) C dX12_arePairs_50 (by decide) ?_
            refine V_istore_n (lv' := [(1, .int (0 : Int32)), (3, .int ((M.1 18 v2.toNatClampNeg) - (1 : Int32))), (0, .ref (ad 0)), (2, .int v2)]) C dX12_arePairs_51 rfl (by decide) rfl ?_
            refine V_iinc (v := (v2 + 1)) (lv' := [(2, .int (v2 + 1)), (1, .int (0 : Int32)), (3, .int ((M.1 18 v2.toNatClampNeg) - (1 : Int32))), (0, .ref (ad 0))]) C 3 dX12_arePairs_52 rfl rfl (by decide) rfl ?_
            refine V_goto C 4 dX12_arePairs_55 (by decide) ?_
            refine V_drop (lv' := [(0, .ref (ad 0)), (1, .int (0 : Int32)), (2, .int (v2 + 1))]) [3, 1, 0] rfl ?_
            exact ih (0 : Int32) (v2 + 1) M h (Or.inl rfl)
          · have h := h.2 q5
            refine V_aload_n C 1 dX12_arePairs_34 rfl ?_
            refine V_get (k0 := 28) (Cn := RX12) (T := TX12) (N := 49) C (nsM_mem (by decide)) rfl iw_X12_arePairs_X12 (by decide) rfl m_X12_arePairs_f62 (ceM_0 _) rfl dX12_arePairs_35 ?_
            refine V_iload_n C 0 dX12_arePairs_38 rfl ?_
            have g6 := h.1
            have h := h.2
            refine V_iald (t0 := 1) (L := 5) C (nsM_mem (by decide)) (fun _ => rfl) rfl g6 dX12_arePairs_39 ?_
            refine V_iload_n C 3 dX12_arePairs_40 rfl ?_
            refine V_iconst (v := (1 : Int32)) C dX12_arePairs_41 (by decide) ?_
            refine V_iadd C dX12_arePairs_42 ?_
            refine V_icmp_ne C 50 dX12_arePairs_43 (by decide) (fun q7 => ?_) (fun q7 => ?_)
            · have h := h.1 q7
              refine V_iconst (v := (0 : Int32)) C dX12_arePairs_50 (by decide) ?_
              refine V_istore_n (lv' := [(1, .int (0 : Int32)), (3, .int ((M.1 18 v2.toNatClampNeg) - (1 : Int32))), (0, .ref (ad 0)), (2, .int v2)]) C dX12_arePairs_51 rfl (by decide) rfl ?_
              refine V_iinc (v := (v2 + 1)) (lv' := [(2, .int (v2 + 1)), (1, .int (0 : Int32)), (3, .int ((M.1 18 v2.toNatClampNeg) - (1 : Int32))), (0, .ref (ad 0))]) C 3 dX12_arePairs_52 rfl rfl (by decide) rfl ?_
              refine V_goto C 4 dX12_arePairs_55 (by decide) ?_
              refine V_drop (lv' := [(0, .ref (ad 0)), (1, .int (0 : Int32)), (2, .int (v2 + 1))]) [3, 1, 0] rfl ?_
              exact ih (0 : Int32) (v2 + 1) M h (Or.inl rfl)
            · have h := h.2 q7
              refine V_drop (lv' := [(0, .ref (ad 0)), (2, .int v2)]) [1, 3] rfl ?_
              exact L46 (w_X12_arePairs_4  post  n) ih v2 M h 
  unfold w_X12_arePairs at h
  refine V_iconst (v := (1 : Int32)) C dX12_arePairs_0 (by decide) ?_
  refine V_istore_n (lv' := [(1, .int (1 : Int32)), (0, .ref (ad 0))]) C dX12_arePairs_1 rfl (by decide) rfl ?_
  refine V_iconst (v := (0 : Int32)) C dX12_arePairs_2 (by decide) ?_
  refine V_istore_n (lv' := [(2, .int (0 : Int32)), (1, .int (1 : Int32)), (0, .ref (ad 0))]) C dX12_arePairs_3 rfl (by decide) rfl ?_
  refine V_drop (lv' := [(0, .ref (ad 0)), (1, .int (1 : Int32)), (2, .int (0 : Int32))]) [2, 1, 0] rfl ?_
  obtain ⟨n0, h⟩ := h
  exact L4  n0 (1 : Int32) (0 : Int32) M h (Or.inr rfl)
def w_X12_nextMates_37  (post : Int32 → Mm → Prop)  (v1 : Int32) (M : Mm) : Prop :=
    ((0 ≤ v1) → ((vp_in v1 5) ∧ (∀ M3 : Mm, M3 = wI M 18 (upd (M.1 18) v1.toNatClampNeg ((M.1 18 v1.toNatClampNeg) + (1 : Int32))) → (post (1 : Int32) M3)))) ∧ ((¬ 0 ≤ v1) → (post (0 : Int32) M))
def w_X12_nextMates_7  (post : Int32 → Mm → Prop)  : Nat → Int32 → Mm → Prop
  | 0 => fun _ _ => False
  | n + 1 => fun v1 M =>
    ((v1 < 0) → (w_X12_nextMates_37  post  v1 M)) ∧ ((¬ v1 < 0) → ((vp_in v1 5) ∧ (((¬ (M.1 18 v1.toNatClampNeg) = (M.1 0 3)) → (w_X12_nextMates_37  post  v1 M)) ∧ (((M.1 18 v1.toNatClampNeg) = (M.1 0 3)) → (∀ M8 : Mm, M8 = wI M 18 (upd (M.1 18) v1.toNatClampNeg (0 : Int32)) → (w_X12_nextMates_7  post  n (v1 + (-1)) M8))))))
def w_X12_nextMates  (M : Mm) (post : Int32 → Mm → Prop) : Prop :=
  ∃ n0 : Nat, w_X12_nextMates_7  post  n0 ((M.1 0 3) - (1 : Int32)) M
theorem iw_X12_nextMates_X12 : ∀ w ∈ u_ws RX12 TX12 49, w ∈ wsX12_nextMates := by decide +kernel
theorem m_X12_nextMates_f62 : Cond.fieldLink RX12 62 "ShameYardsModel" "mate" "[I" ∈ wsX12_nextMates := by decide +kernel
theorem m_X12_nextMates_f156 : Cond.fieldLink RX12 156 "ShameYardsModel" "people" "I" ∈ wsX12_nextMates := by decide +kernel
set_option maxHeartbeats 4000000 in
set_option maxRecDepth 100000 in
theorem c_X12_nextMates (l : Launch) (D : va_G) (cy : Nat → ClassId) (ad : Nat → Nat) (A : Nat → Prop) (G : Gd A ad nsM)    (M : Mm) (post : Int32 → Mm → Prop) (h : w_X12_nextMates  M post) : CI l yX12_nextMates wsX12_nextMates (rmL 2) D (tysC cy) A ad nsM (ceM ad cy) ExM [.ref (ad 0)] M (fun r M' => (r = 0 ∨ r = 1) ∧ post r M') := by
  refine Met_V (cc := cX12_nextMates) (maxL := 2) (ret := (some .boolean)) (by decide) rfl G Lo_M ExM_ok (Nat.le_of_ble_eq_true rfl) rfl ?_
  intro p e s m args below meth c C hr hlk
  have C : Cx p s m args c cX12_nextMates 2 RX12 wsX12_nextMates D (tysC cy) A ad nsM (ceM ad cy) ExM := C
  have L37 : ∀  (v1 : Int32) (M : Mm), w_X12_nextMates_37  post  v1 M → V p l e (rmL 2) s m args below meth c (MQ below (va_Qi (fun r M' => (r = 0 ∨ r = 1) ∧ post r M') (Wd D (tysC cy) ad nsM (ceM ad cy) ExM) A) args s 0 0 A) D A ad nsM (ceM ad cy) 2 M [(0, .ref (ad 0)), (1, .int v1)] 37 [] := by
    intro  v1 M h 
    unfold w_X12_nextMates_37 at h
    refine V_iload_n C 1 dX12_nextMates_37 rfl ?_
    refine V_if_ge C 43 dX12_nextMates_38 (by decide) (fun q1 => ?_) (fun q1 => ?_)
    · have h := h.1 q1
      refine V_aload_n C 0 dX12_nextMates_43 rfl ?_
      refine V_get (k0 := 28) (Cn := RX12) (T := TX12) (N := 49) C (nsM_mem (by decide)) rfl iw_X12_nextMates_X12 (by decide) rfl m_X12_nextMates_f62 (ceM_0 _) rfl dX12_nextMates_44 ?_
      refine V_iload_n C 1 dX12_nextMates_47 rfl ?_
      refine V_dup2 C dX12_nextMates_48 rfl rfl ?_
      have g2 := h.1
      have h := h.2
      refine V_iald (t0 := 1) (L := 5) C (nsM_mem (by decide)) (fun _ => rfl) rfl g2 dX12_nextMates_49 ?_
      refine V_iconst (v := (1 : Int32)) C dX12_nextMates_50 (by decide) ?_
      refine V_iadd C dX12_nextMates_51 ?_
      refine V_iast (t0 := 1) (L := 5) C (nsM_mem (by decide)) (fun _ => rfl) rfl g2 dX12_nextMates_52 (fun M3 e4 => ?_)
      have h := h M3 e4
      refine V_iconst (v := (1 : Int32)) C dX12_nextMates_53 (by decide) ?_
      exact V_zret C hr hlk (Or.inr rfl) dX12_nextMates_54 h
    · have h := h.2 q1
      refine V_iconst (v := (0 : Int32)) C dX12_nextMates_41 (by decide) ?_
      exact V_zret C hr hlk (Or.inl rfl) dX12_nextMates_42 h
  have L7 : ∀  (n : Nat) (v1 : Int32) (M : Mm), w_X12_nextMates_7  post  n v1 M → V p l e (rmL 2) s m args below meth c (MQ below (va_Qi (fun r M' => (r = 0 ∨ r = 1) ∧ post r M') (Wd D (tysC cy) ad nsM (ceM ad cy) ExM) A) args s 0 0 A) D A ad nsM (ceM ad cy) 2 M [(0, .ref (ad 0)), (1, .int v1)] 7 [] := by
    intro  n
    induction n with
    | zero => intro v1 M h; exact h.elim
    | succ n ih =>
    intro v1 M h 
    unfold w_X12_nextMates_7 at h
    refine V_iload_n C 1 dX12_nextMates_7 rfl ?_
    refine V_if_lt C 37 dX12_nextMates_8 (by decide) (fun q5 => ?_) (fun q5 => ?_)
    · have h := h.1 q5
      refine V_drop (lv' := [(0, .ref (ad 0)), (1, .int v1)]) [0, 1] rfl ?_
      exact L37  v1 M h 
    · have h := h.2 q5
      refine V_aload_n C 0 dX12_nextMates_11 rfl ?_
      refine V_get (k0 := 28) (Cn := RX12) (T := TX12) (N := 49) C (nsM_mem (by decide)) rfl iw_X12_nextMates_X12 (by decide) rfl m_X12_nextMates_f62 (ceM_0 _) rfl dX12_nextMates_12 ?_
      refine V_iload_n C 1 dX12_nextMates_15 rfl ?_
      have g6 := h.1
      have h := h.2
      refine V_iald (t0 := 1) (L := 5) C (nsM_mem (by decide)) (fun _ => rfl) rfl g6 dX12_nextMates_16 ?_
      refine V_aload_n C 0 dX12_nextMates_17 rfl ?_
      refine V_get (k0 := 3) (Cn := RX12) (T := TX12) (N := 49) C (nsM_mem (by decide)) rfl iw_X12_nextMates_X12 (by decide) rfl m_X12_nextMates_f156 (ceM_0 _) rfl dX12_nextMates_18 ?_
      refine V_icmp_ne C 37 dX12_nextMates_21 (by decide) (fun q7 => ?_) (fun q7 => ?_)
      · have h := h.1 q7
        refine V_drop (lv' := [(0, .ref (ad 0)), (1, .int v1)]) [0, 1] rfl ?_
        exact L37  v1 M h 
      · have h := h.2 q7
        refine V_aload_n C 0 dX12_nextMates_24 rfl ?_
        refine V_get (k0 := 28) (Cn := RX12) (T := TX12) (N := 49) C (nsM_mem (by decide)) rfl iw_X12_nextMates_X12 (by decide) rfl m_X12_nextMates_f62 (ceM_0 _) rfl dX12_nextMates_25 ?_
        refine V_iload_n C 1 dX12_nextMates_28 rfl ?_
        refine V_iconst (v := (0 : Int32)) C dX12_nextMates_29 (by decide) ?_
        refine V_iast (t0 := 1) (L := 5) C (nsM_mem (by decide)) (fun _ => rfl) rfl g6 dX12_nextMates_30 (fun M8 e9 => ?_)
        have h := h M8 e9
        refine V_iinc (v := (v1 + (-1))) (lv' := [(1, .int (v1 + (-1))), (0, .ref (ad 0))]) C 1 dX12_nextMates_31 rfl rfl (by decide) rfl ?_
        refine V_goto C 7 dX12_nextMates_34 (by decide) ?_
        refine V_drop (lv' := [(0, .ref (ad 0)), (1, .int (v1 + (-1)))]) [1, 0] rfl ?_
        exact ih (v1 + (-1)) M8 h 
  unfold w_X12_nextMates at h
  refine V_aload_n C 0 dX12_nextMates_0 rfl ?_
  refine V_get (k0 := 3) (Cn := RX12) (T := TX12) (N := 49) C (nsM_mem (by decide)) rfl iw_X12_nextMates_X12 (by decide) rfl m_X12_nextMates_f156 (ceM_0 _) rfl dX12_nextMates_1 ?_
  refine V_iconst (v := (1 : Int32)) C dX12_nextMates_4 (by decide) ?_
  refine V_isub C dX12_nextMates_5 ?_
  refine V_istore_n (lv' := [(1, .int ((M.1 0 3) - (1 : Int32))), (0, .ref (ad 0))]) C dX12_nextMates_6 rfl (by decide) rfl ?_
  refine V_drop (lv' := [(0, .ref (ad 0)), (1, .int ((M.1 0 3) - (1 : Int32)))]) [1, 0] rfl ?_
  obtain ⟨n0, h⟩ := h
  exact L7  n0 ((M.1 0 3) - (1 : Int32)) M h 
def w_X12_mostSteps_4  (post : Int32 → Mm → Prop)  : Nat → Int32 → Int32 → Int32 → Mm → Prop
  | 0 => fun _ _ _ _ => False
  | n + 1 => fun v1 v2 v3 M =>
    (((M.1 0 3) ≤ v3) → (post v2 M)) ∧ ((¬ (M.1 0 3) ≤ v3) → ((vp_in v3 5) ∧ (w_X12_stepsOf v3 v1 ((M.1 18 v3.toNatClampNeg) - (1 : Int32)) M (fun r3 M4 => ((r3 ≤ v2) → (w_X12_mostSteps_4  post  n v1 v2 (v3 + 1) M4)) ∧ ((¬ r3 ≤ v2) → (w_X12_mostSteps_4  post  n v1 r3 (v3 + 1) M4))))))
def w_X12_mostSteps (x1 : Int32) (M : Mm) (post : Int32 → Mm → Prop) : Prop :=
  ∃ n0 : Nat, w_X12_mostSteps_4  post  n0 x1 (0 : Int32) (0 : Int32) M
theorem iw_X12_mostSteps_X12 : ∀ w ∈ u_ws RX12 TX12 49, w ∈ wsX12_mostSteps := by decide +kernel
theorem m_X12_mostSteps_f156 : Cond.fieldLink RX12 156 "ShameYardsModel" "people" "I" ∈ wsX12_mostSteps := by decide +kernel
theorem m_X12_mostSteps_f62 : Cond.fieldLink RX12 62 "ShameYardsModel" "mate" "[I" ∈ wsX12_mostSteps := by decide +kernel
set_option maxHeartbeats 4000000 in
set_option maxRecDepth 100000 in
theorem c_X12_mostSteps (l : Launch) (D : va_G) (cy : Nat → ClassId) (ad : Nat → Nat) (A : Nat → Prop) (G : Gd A ad nsM)   (x1 : Int32) (M : Mm) (post : Int32 → Mm → Prop) (h : w_X12_mostSteps x1 M post) : CI l yX12_mostSteps wsX12_mostSteps (rmL 4) D (tysC cy) A ad nsM (ceM ad cy) ExM [.ref (ad 0), .int x1] M post := by
  refine Met_V (cc := cX12_mostSteps) (maxL := 5) (ret := (some .int)) (by decide) rfl G Lo_M ExM_ok (Nat.le_of_ble_eq_true rfl) rfl ?_
  intro p e s m args below meth c C hr hlk
  have C : Cx p s m args c cX12_mostSteps 5 RX12 wsX12_mostSteps D (tysC cy) A ad nsM (ceM ad cy) ExM := C
  have L4 : ∀  (n : Nat) (v1 : Int32) (v2 : Int32) (v3 : Int32) (M : Mm), w_X12_mostSteps_4  post  n v1 v2 v3 M → V p l e (rmL 4) s m args below meth c (MQ below (va_Qi post (Wd D (tysC cy) ad nsM (ceM ad cy) ExM) A) args s 0 0 A) D A ad nsM (ceM ad cy) 5 M [(0, .ref (ad 0)), (1, .int v1), (2, .int v2), (3, .int v3)] 4 [] := by
    intro  n
    induction n with
    | zero => intro v1 v2 v3 M h; exact h.elim
    | succ n ih =>
    intro v1 v2 v3 M h 
    unfold w_X12_mostSteps_4 at h
    refine V_iload_n C 3 dX12_mostSteps_4 rfl ?_
    refine V_aload_n C 0 dX12_mostSteps_5 rfl ?_
    refine V_get (k0 := 3) (Cn := RX12) (T := TX12) (N := 49) C (nsM_mem (by decide)) rfl iw_X12_mostSteps_X12 (by decide) rfl m_X12_mostSteps_f156 (ceM_0 _) rfl dX12_mostSteps_6 ?_
    refine V_icmp_ge C 47 dX12_mostSteps_9 (by decide) (fun q1 => ?_) (fun q1 => ?_)
    · have h := h.1 q1
      refine V_iload_n C 2 dX12_mostSteps_47 rfl ?_
      exact V_iret C hr hlk dX12_mostSteps_48 h
    · have h := h.2 q1
      refine V_aload_n C 0 dX12_mostSteps_12 rfl ?_
      refine V_iload_n C 3 dX12_mostSteps_13 rfl ?_
      refine V_iload_n C 1 dX12_mostSteps_14 rfl ?_
      refine V_aload_n C 0 dX12_mostSteps_15 rfl ?_
      refine V_get (k0 := 28) (Cn := RX12) (T := TX12) (N := 49) C (nsM_mem (by decide)) rfl iw_X12_mostSteps_X12 (by decide) rfl m_X12_mostSteps_f62 (ceM_0 _) rfl dX12_mostSteps_16 ?_
      refine V_iload_n C 3 dX12_mostSteps_19 rfl ?_
      have g2 := h.1
      have h := h.2
      refine V_iald (t0 := 1) (L := 5) C (nsM_mem (by decide)) (fun _ => rfl) rfl g2 dX12_mostSteps_20 ?_
      refine V_iconst (v := (1 : Int32)) C dX12_mostSteps_21 (by decide) ?_
      refine V_isub C dX12_mostSteps_22 ?_
      refine V_callVi (q := (RX12, TX12, 49)) (rest := []) C (nsM_mem (by decide)) (ceM_0 _) rfl (c_X12_stepsOf l D cy ad A G v3 v1 ((M.1 18 v3.toNatClampNeg) - (1 : Int32)) M _ h) (cwV 3 C.1.2.2.2.2 gX12_mostSteps_X12_stepsOf rfl rfl rfl (by decide +kernel) ⟨by decide, by decide⟩) rfl rfl (Nat.le_of_ble_eq_true rfl) dX12_mostSteps_23 (fun r3 M4 h => ?_)
      refine V_istore (lv' := [(4, .int r3), (0, .ref (ad 0)), (1, .int v1), (2, .int v2), (3, .int v3)]) C dX12_mostSteps_26 (by decide) rfl ?_
      refine V_iload C 0 dX12_mostSteps_28 rfl ?_
      refine V_iload_n C 3 dX12_mostSteps_30 rfl ?_
      refine V_icmp_le C 39 dX12_mostSteps_31 (by decide) (fun q6 => ?_) (fun q6 => ?_)
      · have h := h.1 q6
        refine V_iload_n C 3 dX12_mostSteps_39 rfl ?_
        refine V_istore_n (lv' := [(2, .int v2), (4, .int r3), (0, .ref (ad 0)), (1, .int v1), (3, .int v3)]) C dX12_mostSteps_40 rfl (by decide) rfl ?_
        refine V_iinc (v := (v3 + 1)) (lv' := [(3, .int (v3 + 1)), (2, .int v2), (4, .int r3), (0, .ref (ad 0)), (1, .int v1)]) C 4 dX12_mostSteps_41 rfl rfl (by decide) rfl ?_
        refine V_goto C 4 dX12_mostSteps_44 (by decide) ?_
        refine V_drop (lv' := [(0, .ref (ad 0)), (1, .int v1), (2, .int v2), (3, .int (v3 + 1))]) [3, 4, 1, 0] rfl ?_
        exact ih v1 v2 (v3 + 1) M4 h 
      · have h := h.2 q6
        refine V_iload C 0 dX12_mostSteps_34 rfl ?_
        refine V_goto C 40 dX12_mostSteps_36 (by decide) ?_
        refine V_istore_n (lv' := [(2, .int r3), (4, .int r3), (0, .ref (ad 0)), (1, .int v1), (3, .int v3)]) C dX12_mostSteps_40 rfl (by decide) rfl ?_
        refine V_iinc (v := (v3 + 1)) (lv' := [(3, .int (v3 + 1)), (2, .int r3), (4, .int r3), (0, .ref (ad 0)), (1, .int v1)]) C 4 dX12_mostSteps_41 rfl rfl (by decide) rfl ?_
        refine V_goto C 4 dX12_mostSteps_44 (by decide) ?_
        refine V_drop (lv' := [(0, .ref (ad 0)), (1, .int v1), (2, .int r3), (3, .int (v3 + 1))]) [3, 4, 1, 0] rfl ?_
        exact ih v1 r3 (v3 + 1) M4 h 
  unfold w_X12_mostSteps at h
  refine V_iconst (v := (0 : Int32)) C dX12_mostSteps_0 (by decide) ?_
  refine V_istore_n (lv' := [(2, .int (0 : Int32)), (0, .ref (ad 0)), (1, .int x1)]) C dX12_mostSteps_1 rfl (by decide) rfl ?_
  refine V_iconst (v := (0 : Int32)) C dX12_mostSteps_2 (by decide) ?_
  refine V_istore_n (lv' := [(3, .int (0 : Int32)), (2, .int (0 : Int32)), (0, .ref (ad 0)), (1, .int x1)]) C dX12_mostSteps_3 rfl (by decide) rfl ?_
  refine V_drop (lv' := [(0, .ref (ad 0)), (1, .int x1), (2, .int (0 : Int32)), (3, .int (0 : Int32))]) [2, 3, 1, 0] rfl ?_
  obtain ⟨n0, h⟩ := h
  exact L4  n0 x1 (0 : Int32) (0 : Int32) M h 
def w_X12_goTogether_4  (post : Int32 → Mm → Prop)  : Nat → Int32 → Int32 → Mm → Prop
  | 0 => fun _ _ _ => False
  | n + 1 => fun v1 v2 M =>
    (((M.1 0 3) ≤ v2) → (post v1 M)) ∧ ((¬ (M.1 0 3) ≤ v2) → ((vp_in v2 5) ∧ ((((M.1 18 v2.toNatClampNeg) ≤ 0) → (w_X12_goTogether_4  post  n (v1 + (0 : Int32)) (v2 + 1) M)) ∧ ((¬ (M.1 18 v2.toNatClampNeg) ≤ 0) → (w_X12_goTogether_4  post  n (v1 + (1 : Int32)) (v2 + 1) M)))))
def w_X12_goTogether  (M : Mm) (post : Int32 → Mm → Prop) : Prop :=
  ∃ n0 : Nat, w_X12_goTogether_4  post  n0 (0 : Int32) (0 : Int32) M
theorem iw_X12_goTogether_X12 : ∀ w ∈ u_ws RX12 TX12 49, w ∈ wsX12_goTogether := by decide +kernel
theorem m_X12_goTogether_f156 : Cond.fieldLink RX12 156 "ShameYardsModel" "people" "I" ∈ wsX12_goTogether := by decide +kernel
theorem m_X12_goTogether_f62 : Cond.fieldLink RX12 62 "ShameYardsModel" "mate" "[I" ∈ wsX12_goTogether := by decide +kernel
set_option maxHeartbeats 4000000 in
set_option maxRecDepth 100000 in
theorem c_X12_goTogether (l : Launch) (D : va_G) (cy : Nat → ClassId) (ad : Nat → Nat) (A : Nat → Prop) (G : Gd A ad nsM)    (M : Mm) (post : Int32 → Mm → Prop) (h : w_X12_goTogether  M post) : CI l yX12_goTogether wsX12_goTogether (rmL 2) D (tysC cy) A ad nsM (ceM ad cy) ExM [.ref (ad 0)] M post := by
  refine Met_V (cc := cX12_goTogether) (maxL := 3) (ret := (some .int)) (by decide) rfl G Lo_M ExM_ok (Nat.le_of_ble_eq_true rfl) rfl ?_
  intro p e s m args below meth c C hr hlk
  have C : Cx p s m args c cX12_goTogether 3 RX12 wsX12_goTogether D (tysC cy) A ad nsM (ceM ad cy) ExM := C
  have L4 : ∀  (n : Nat) (v1 : Int32) (v2 : Int32) (M : Mm), w_X12_goTogether_4  post  n v1 v2 M → V p l e (rmL 2) s m args below meth c (MQ below (va_Qi post (Wd D (tysC cy) ad nsM (ceM ad cy) ExM) A) args s 0 0 A) D A ad nsM (ceM ad cy) 3 M [(0, .ref (ad 0)), (1, .int v1), (2, .int v2)] 4 [] := by
    intro  n
    induction n with
    | zero => intro v1 v2 M h; exact h.elim
    | succ n ih =>
    intro v1 v2 M h 
    unfold w_X12_goTogether_4 at h
    refine V_iload_n C 2 dX12_goTogether_4 rfl ?_
    refine V_aload_n C 0 dX12_goTogether_5 rfl ?_
    refine V_get (k0 := 3) (Cn := RX12) (T := TX12) (N := 49) C (nsM_mem (by decide)) rfl iw_X12_goTogether_X12 (by decide) rfl m_X12_goTogether_f156 (ceM_0 _) rfl dX12_goTogether_6 ?_
    refine V_icmp_ge C 35 dX12_goTogether_9 (by decide) (fun q1 => ?_) (fun q1 => ?_)
    · have h := h.1 q1
      refine V_iload_n C 1 dX12_goTogether_35 rfl ?_
      exact V_iret C hr hlk dX12_goTogether_36 h
    · have h := h.2 q1
      refine V_iload_n C 1 dX12_goTogether_12 rfl ?_
      refine V_aload_n C 0 dX12_goTogether_13 rfl ?_
      refine V_get (k0 := 28) (Cn := RX12) (T := TX12) (N := 49) C (nsM_mem (by decide)) rfl iw_X12_goTogether_X12 (by decide) rfl m_X12_goTogether_f62 (ceM_0 _) rfl dX12_goTogether_14 ?_
      refine V_iload_n C 2 dX12_goTogether_17 rfl ?_
      have g2 := h.1
      have h := h.2
      refine V_iald (t0 := 1) (L := 5) C (nsM_mem (by decide)) (fun _ => rfl) rfl g2 dX12_goTogether_18 ?_
      refine V_if_le C 26 dX12_goTogether_19 (by decide) (fun q3 => ?_) (fun q3 => ?_)
      · have h := h.1 q3
        refine V_iconst (v := (0 : Int32)) C dX12_goTogether_26 (by decide) ?_
        refine V_iadd C dX12_goTogether_27 ?_
        refine V_istore_n (lv' := [(1, .int (v1 + (0 : Int32))), (0, .ref (ad 0)), (2, .int v2)]) C dX12_goTogether_28 rfl (by decide) rfl ?_
        refine V_iinc (v := (v2 + 1)) (lv' := [(2, .int (v2 + 1)), (1, .int (v1 + (0 : Int32))), (0, .ref (ad 0))]) C 2 dX12_goTogether_29 rfl rfl (by decide) rfl ?_
        refine V_goto C 4 dX12_goTogether_32 (by decide) ?_
        refine V_drop (lv' := [(0, .ref (ad 0)), (1, .int (v1 + (0 : Int32))), (2, .int (v2 + 1))]) [2, 1, 0] rfl ?_
        exact ih (v1 + (0 : Int32)) (v2 + 1) M h 
      · have h := h.2 q3
        refine V_iconst (v := (1 : Int32)) C dX12_goTogether_22 (by decide) ?_
        refine V_goto C 27 dX12_goTogether_23 (by decide) ?_
        refine V_iadd C dX12_goTogether_27 ?_
        refine V_istore_n (lv' := [(1, .int (v1 + (1 : Int32))), (0, .ref (ad 0)), (2, .int v2)]) C dX12_goTogether_28 rfl (by decide) rfl ?_
        refine V_iinc (v := (v2 + 1)) (lv' := [(2, .int (v2 + 1)), (1, .int (v1 + (1 : Int32))), (0, .ref (ad 0))]) C 2 dX12_goTogether_29 rfl rfl (by decide) rfl ?_
        refine V_goto C 4 dX12_goTogether_32 (by decide) ?_
        refine V_drop (lv' := [(0, .ref (ad 0)), (1, .int (v1 + (1 : Int32))), (2, .int (v2 + 1))]) [2, 1, 0] rfl ?_
        exact ih (v1 + (1 : Int32)) (v2 + 1) M h 
  unfold w_X12_goTogether at h
  refine V_iconst (v := (0 : Int32)) C dX12_goTogether_0 (by decide) ?_
  refine V_istore_n (lv' := [(1, .int (0 : Int32)), (0, .ref (ad 0))]) C dX12_goTogether_1 rfl (by decide) rfl ?_
  refine V_iconst (v := (0 : Int32)) C dX12_goTogether_2 (by decide) ?_
  refine V_istore_n (lv' := [(2, .int (0 : Int32)), (1, .int (0 : Int32)), (0, .ref (ad 0))]) C dX12_goTogether_3 rfl (by decide) rfl ?_
  refine V_drop (lv' := [(0, .ref (ad 0)), (1, .int (0 : Int32)), (2, .int (0 : Int32))]) [2, 1, 0] rfl ?_
  obtain ⟨n0, h⟩ := h
  exact L4  n0 (0 : Int32) (0 : Int32) M h 
def w_X12_pairsNow_120  (post : Int32 → Mm → Prop) (k37 : Int32 → Int32 → Int32 → Int32 → Int32 → Mm → Prop) (v1 : Int32) (v2 : Int32) (v3 : Int32) (v4 : Int32) (M : Mm) : Prop :=
    w_X12_nextMates  M (fun r1 M2 => k37 v1 v2 v3 v4 r1 M2)
def w_X12_pairsNow_91  (post : Int32 → Mm → Prop) (k37 : Int32 → Int32 → Int32 → Int32 → Int32 → Mm → Prop) : Nat → Int32 → Int32 → Int32 → Int32 → Int32 → Mm → Prop
  | 0 => fun _ _ _ _ _ _ => False
  | n + 1 => fun v1 v2 v3 v4 v8 M =>
    (((M.1 0 3) ≤ v8) → (w_X12_pairsNow_120  post k37 v1 v2 v3 v4 M)) ∧ ((¬ (M.1 0 3) ≤ v8) → ((vp_in v8 5) ∧ (∀ M6 : Mm, M6 = wI M 19 (upd (M.1 19) v8.toNatClampNeg (M.1 18 v8.toNatClampNeg)) → (w_X12_pairsNow_91  post k37 n v1 v2 v3 v4 (v8 + 1) M6))))
def w_X12_pairsNow_81  (post : Int32 → Mm → Prop) (k37 : Int32 → Int32 → Int32 → Int32 → Int32 → Mm → Prop) (v1 : Int32) (v2 : Int32) (v6 : Int32) (v7 : Int32) (M : Mm) : Prop :=
    ∃ n0 : Nat, w_X12_pairsNow_91  post k37 n0 v1 v2 v6 v7 (0 : Int32) M
def w_X12_pairsNow_37  (post : Int32 → Mm → Prop)  : Nat → Int32 → Int32 → Int32 → Int32 → Int32 → Mm → Prop
  | 0 => fun _ _ _ _ _ _ => False
  | n + 1 => fun v1 v2 v3 v4 v5 M =>
    ((v5 = 0) → (((¬ v2 = 0) → ((vp_in (v2 - (10 : Int32)) 5) ∧ (post ((M.1 19 (v2 - (10 : Int32)).toNatClampNeg) - (1 : Int32)) M))) ∧ ((v2 = 0) → (post v3 M)))) ∧ ((¬ v5 = 0) → (w_X12_arePairs  M (fun r11 M12 => ((r11 = 0) → (w_X12_pairsNow_120  post (w_X12_pairsNow_37  post  n) v1 v2 v3 v4 M12)) ∧ ((¬ r11 = 0) → (w_X12_mostSteps v1 M12 (fun r15 M16 => w_X12_goTogether  M16 (fun r18 M19 => ((r15 < v3) → (w_X12_pairsNow_81  post (w_X12_pairsNow_37  post  n) v1 v2 r15 r18 M19)) ∧ ((¬ r15 < v3) → (((¬ r15 = v3) → (w_X12_pairsNow_120  post (w_X12_pairsNow_37  post  n) v1 v2 v3 v4 M19)) ∧ ((r15 = v3) → (((v4 ≤ r18) → (w_X12_pairsNow_120  post (w_X12_pairsNow_37  post  n) v1 v2 v3 v4 M19)) ∧ ((¬ v4 ≤ r18) → (w_X12_pairsNow_81  post (w_X12_pairsNow_37  post  n) v1 v2 r15 r18 M19)))))))))))))
def w_X12_pairsNow_2  (post : Int32 → Mm → Prop)  : Nat → Int32 → Int32 → Int32 → Mm → Prop
  | 0 => fun _ _ _ _ => False
  | n + 1 => fun v1 v2 v3 M =>
    (((5 : Int32) ≤ v3) → (∃ n0 : Nat, w_X12_pairsNow_37  post  n0 v1 v2 (268435456 : Int32) (268435456 : Int32) (1 : Int32) M)) ∧ ((¬ (5 : Int32) ≤ v3) → ((vp_in v3 5) ∧ (∀ M26 : Mm, M26 = wI M 18 (upd (M.1 18) v3.toNatClampNeg (0 : Int32)) → (∀ M28 : Mm, M28 = wI M26 19 (upd (M26.1 19) v3.toNatClampNeg (0 : Int32)) → (w_X12_pairsNow_2  post  n v1 v2 (v3 + 1) M28)))))
def w_X12_pairsNow (x1 : Int32) (x2 : Int32) (M : Mm) (post : Int32 → Mm → Prop) : Prop :=
  ∃ n0 : Nat, w_X12_pairsNow_2  post  n0 x1 x2 (0 : Int32) M
theorem iw_X12_pairsNow_X12 : ∀ w ∈ u_ws RX12 TX12 49, w ∈ wsX12_pairsNow := by decide +kernel
theorem m_X12_pairsNow_f156 : Cond.fieldLink RX12 156 "ShameYardsModel" "people" "I" ∈ wsX12_pairsNow := by decide +kernel
theorem m_X12_pairsNow_f65 : Cond.fieldLink RX12 65 "ShameYardsModel" "bestMate" "[I" ∈ wsX12_pairsNow := by decide +kernel
theorem m_X12_pairsNow_f62 : Cond.fieldLink RX12 62 "ShameYardsModel" "mate" "[I" ∈ wsX12_pairsNow := by decide +kernel
theorem m_X12_pairsNow_c207 : Jvm.Cond.constant RX12 207 (268435456) ∈ wsX12_pairsNow := by decide +kernel
set_option maxHeartbeats 4000000 in
set_option maxRecDepth 100000 in
theorem c_X12_pairsNow (l : Launch) (D : va_G) (cy : Nat → ClassId) (ad : Nat → Nat) (A : Nat → Prop) (G : Gd A ad nsM)   (x1 : Int32) (x2 : Int32) (M : Mm) (post : Int32 → Mm → Prop) (h : w_X12_pairsNow x1 x2 M post) : CI l yX12_pairsNow wsX12_pairsNow (rmL 5) D (tysC cy) A ad nsM (ceM ad cy) ExM [.ref (ad 0), .int x1, .int x2] M post := by
  refine Met_V (cc := cX12_pairsNow) (maxL := 9) (ret := (some .int)) (by decide) rfl G Lo_M ExM_ok (Nat.le_of_ble_eq_true rfl) rfl ?_
  intro p e s m args below meth c C hr hlk
  have C : Cx p s m args c cX12_pairsNow 9 RX12 wsX12_pairsNow D (tysC cy) A ad nsM (ceM ad cy) ExM := C
  have L120 : ∀ (k37 : Int32 → Int32 → Int32 → Int32 → Int32 → Mm → Prop) (hk37 : ∀ (v1 : Int32) (v2 : Int32) (v3 : Int32) (v4 : Int32) (v5 : Int32) (M : Mm), k37 v1 v2 v3 v4 v5 M → V p l e (rmL 5) s m args below meth c (MQ below (va_Qi post (Wd D (tysC cy) ad nsM (ceM ad cy) ExM) A) args s 0 0 A) D A ad nsM (ceM ad cy) 9 M [(0, .ref (ad 0)), (1, .int v1), (2, .int v2), (3, .int v3), (4, .int v4), (5, .int v5)] 37 []) (v1 : Int32) (v2 : Int32) (v3 : Int32) (v4 : Int32) (M : Mm), w_X12_pairsNow_120  post k37 v1 v2 v3 v4 M → V p l e (rmL 5) s m args below meth c (MQ below (va_Qi post (Wd D (tysC cy) ad nsM (ceM ad cy) ExM) A) args s 0 0 A) D A ad nsM (ceM ad cy) 9 M [(0, .ref (ad 0)), (1, .int v1), (2, .int v2), (3, .int v3), (4, .int v4)] 120 [] := by
    intro k37 hk37 v1 v2 v3 v4 M h 
    unfold w_X12_pairsNow_120 at h
    refine V_aload_n C 0 dX12_pairsNow_120 rfl ?_
    refine V_callVi (q := (RX12, TX12, 49)) (rest := []) C (nsM_mem (by decide)) (ceM_0 _) rfl (c_X12_nextMates l D cy ad A G  M _ h) (cwV 0 C.1.2.2.2.2 gX12_pairsNow_X12_nextMates rfl rfl rfl (by decide +kernel) ⟨by decide, by decide⟩) rfl rfl (Nat.le_of_ble_eq_true rfl) dX12_pairsNow_121 (fun r1 M2 h => ?_)
    obtain ⟨z3, h⟩ := h
    refine V_istore (lv' := [(5, .int r1), (0, .ref (ad 0)), (1, .int v1), (2, .int v2), (3, .int v3), (4, .int v4)]) C dX12_pairsNow_124 (by decide) rfl ?_
    refine V_goto C 37 dX12_pairsNow_126 (by decide) ?_
    refine V_drop (lv' := [(0, .ref (ad 0)), (1, .int v1), (2, .int v2), (3, .int v3), (4, .int v4), (5, .int r1)]) [1, 2, 3, 4, 5, 0] rfl ?_
    exact hk37 v1 v2 v3 v4 r1 M2 h 
  have L91 : ∀ (k37 : Int32 → Int32 → Int32 → Int32 → Int32 → Mm → Prop) (hk37 : ∀ (v1 : Int32) (v2 : Int32) (v3 : Int32) (v4 : Int32) (v5 : Int32) (M : Mm), k37 v1 v2 v3 v4 v5 M → V p l e (rmL 5) s m args below meth c (MQ below (va_Qi post (Wd D (tysC cy) ad nsM (ceM ad cy) ExM) A) args s 0 0 A) D A ad nsM (ceM ad cy) 9 M [(0, .ref (ad 0)), (1, .int v1), (2, .int v2), (3, .int v3), (4, .int v4), (5, .int v5)] 37 []) (n : Nat) (v1 : Int32) (v2 : Int32) (v3 : Int32) (v4 : Int32) (v8 : Int32) (M : Mm), w_X12_pairsNow_91  post k37 n v1 v2 v3 v4 v8 M → V p l e (rmL 5) s m args below meth c (MQ below (va_Qi post (Wd D (tysC cy) ad nsM (ceM ad cy) ExM) A) args s 0 0 A) D A ad nsM (ceM ad cy) 9 M [(0, .ref (ad 0)), (1, .int v1), (2, .int v2), (3, .int v3), (4, .int v4), (8, .int v8)] 91 [] := by
    intro k37 hk37 n
    induction n with
    | zero => intro v1 v2 v3 v4 v8 M h; exact h.elim
    | succ n ih =>
    intro v1 v2 v3 v4 v8 M h 
    unfold w_X12_pairsNow_91 at h
    refine V_iload C 5 dX12_pairsNow_91 rfl ?_
    refine V_aload_n C 0 dX12_pairsNow_93 rfl ?_
    refine V_get (k0 := 3) (Cn := RX12) (T := TX12) (N := 49) C (nsM_mem (by decide)) rfl iw_X12_pairsNow_X12 (by decide) rfl m_X12_pairsNow_f156 (ceM_0 _) rfl dX12_pairsNow_94 ?_
    refine V_icmp_ge C 120 dX12_pairsNow_97 (by decide) (fun q4 => ?_) (fun q4 => ?_)
    · have h := h.1 q4
      refine V_drop (lv' := [(0, .ref (ad 0)), (1, .int v1), (2, .int v2), (3, .int v3), (4, .int v4)]) [0, 1, 2, 3, 4] rfl ?_
      exact L120 k37 hk37 v1 v2 v3 v4 M h 
    · have h := h.2 q4
      refine V_aload_n C 0 dX12_pairsNow_100 rfl ?_
      refine V_get (k0 := 29) (Cn := RX12) (T := TX12) (N := 49) C (nsM_mem (by decide)) rfl iw_X12_pairsNow_X12 (by decide) rfl m_X12_pairsNow_f65 (ceM_0 _) rfl dX12_pairsNow_101 ?_
      refine V_iload C 5 dX12_pairsNow_104 rfl ?_
      refine V_aload_n C 0 dX12_pairsNow_106 rfl ?_
      refine V_get (k0 := 28) (Cn := RX12) (T := TX12) (N := 49) C (nsM_mem (by decide)) rfl iw_X12_pairsNow_X12 (by decide) rfl m_X12_pairsNow_f62 (ceM_0 _) rfl dX12_pairsNow_107 ?_
      refine V_iload C 5 dX12_pairsNow_110 rfl ?_
      have g5 := h.1
      have h := h.2
      refine V_iald (t0 := 1) (L := 5) C (nsM_mem (by decide)) (fun _ => rfl) rfl g5 dX12_pairsNow_112 ?_
      refine V_iast (t0 := 1) (L := 5) C (nsM_mem (by decide)) (fun _ => rfl) rfl g5 dX12_pairsNow_113 (fun M6 e7 => ?_)
      have h := h M6 e7
      refine V_iinc (v := (v8 + 1)) (lv' := [(8, .int (v8 + 1)), (0, .ref (ad 0)), (1, .int v1), (2, .int v2), (3, .int v3), (4, .int v4)]) C 5 dX12_pairsNow_114 rfl rfl (by decide) rfl ?_
      refine V_goto C 91 dX12_pairsNow_117 (by decide) ?_
      refine V_drop (lv' := [(0, .ref (ad 0)), (1, .int v1), (2, .int v2), (3, .int v3), (4, .int v4), (8, .int (v8 + 1))]) [1, 2, 3, 4, 5, 0] rfl ?_
      exact ih v1 v2 v3 v4 (v8 + 1) M6 h 
  have L81 : ∀ (k37 : Int32 → Int32 → Int32 → Int32 → Int32 → Mm → Prop) (hk37 : ∀ (v1 : Int32) (v2 : Int32) (v3 : Int32) (v4 : Int32) (v5 : Int32) (M : Mm), k37 v1 v2 v3 v4 v5 M → V p l e (rmL 5) s m args below meth c (MQ below (va_Qi post (Wd D (tysC cy) ad nsM (ceM ad cy) ExM) A) args s 0 0 A) D A ad nsM (ceM ad cy) 9 M [(0, .ref (ad 0)), (1, .int v1), (2, .int v2), (3, .int v3), (4, .int v4), (5, .int v5)] 37 []) (v1 : Int32) (v2 : Int32) (v6 : Int32) (v7 : Int32) (M : Mm), w_X12_pairsNow_81  post k37 v1 v2 v6 v7 M → V p l e (rmL 5) s m args below meth c (MQ below (va_Qi post (Wd D (tysC cy) ad nsM (ceM ad cy) ExM) A) args s 0 0 A) D A ad nsM (ceM ad cy) 9 M [(0, .ref (ad 0)), (1, .int v1), (2, .int v2), (6, .int v6), (7, .int v7)] 81 [] := by
    intro k37 hk37 v1 v2 v6 v7 M h 
    unfold w_X12_pairsNow_81 at h
    refine V_iload C 3 dX12_pairsNow_81 rfl ?_
    refine V_istore_n (lv' := [(3, .int v6), (0, .ref (ad 0)), (1, .int v1), (2, .int v2), (6, .int v6), (7, .int v7)]) C dX12_pairsNow_83 rfl (by decide) rfl ?_
    refine V_iload C 5 dX12_pairsNow_84 rfl ?_
    refine V_istore (lv' := [(4, .int v7), (3, .int v6), (0, .ref (ad 0)), (1, .int v1), (2, .int v2), (6, .int v6), (7, .int v7)]) C dX12_pairsNow_86 (by decide) rfl ?_
    refine V_iconst (v := (0 : Int32)) C dX12_pairsNow_88 (by decide) ?_
    refine V_istore (lv' := [(8, .int (0 : Int32)), (4, .int v7), (3, .int v6), (0, .ref (ad 0)), (1, .int v1), (2, .int v2), (6, .int v6), (7, .int v7)]) C dX12_pairsNow_89 (by decide) rfl ?_
    refine V_drop (lv' := [(0, .ref (ad 0)), (1, .int v1), (2, .int v2), (3, .int v6), (4, .int v7), (8, .int (0 : Int32))]) [3, 4, 5, 2, 1, 0] rfl ?_
    obtain ⟨n0, h⟩ := h
    exact L91 k37 hk37 n0 v1 v2 v6 v7 (0 : Int32) M h 
  have L37 : ∀  (n : Nat) (v1 : Int32) (v2 : Int32) (v3 : Int32) (v4 : Int32) (v5 : Int32) (M : Mm), w_X12_pairsNow_37  post  n v1 v2 v3 v4 v5 M → V p l e (rmL 5) s m args below meth c (MQ below (va_Qi post (Wd D (tysC cy) ad nsM (ceM ad cy) ExM) A) args s 0 0 A) D A ad nsM (ceM ad cy) 9 M [(0, .ref (ad 0)), (1, .int v1), (2, .int v2), (3, .int v3), (4, .int v4), (5, .int v5)] 37 [] := by
    intro  n
    induction n with
    | zero => intro v1 v2 v3 v4 v5 M h; exact h.elim
    | succ n ih =>
    intro v1 v2 v3 v4 v5 M h 
    unfold w_X12_pairsNow_37 at h
    refine V_iload C 5 dX12_pairsNow_37 rfl ?_
    refine V_if_eq C 129 dX12_pairsNow_39 (by decide) (fun q8 => ?_) (fun q8 => ?_)
    · have h := h.1 q8
      refine V_iload_n C 2 dX12_pairsNow_129 rfl ?_
      refine V_if_ne C 137 dX12_pairsNow_130 (by decide) (fun q9 => ?_) (fun q9 => ?_)
      · have h := h.1 q9
        refine V_aload_n C 0 dX12_pairsNow_137 rfl ?_
        refine V_get (k0 := 29) (Cn := RX12) (T := TX12) (N := 49) C (nsM_mem (by decide)) rfl iw_X12_pairsNow_X12 (by decide) rfl m_X12_pairsNow_f65 (ceM_0 _) rfl dX12_pairsNow_138 ?_
        refine V_iload_n C 2 dX12_pairsNow_141 rfl ?_
        refine V_bipush (v := (10 : Int32)) C dX12_pairsNow_142 (by decide) ?_
        refine V_isub C dX12_pairsNow_144 ?_
        have g10 := h.1
        have h := h.2
        refine V_iald (t0 := 1) (L := 5) C (nsM_mem (by decide)) (fun _ => rfl) rfl g10 dX12_pairsNow_145 ?_
        refine V_iconst (v := (1 : Int32)) C dX12_pairsNow_146 (by decide) ?_
        refine V_isub C dX12_pairsNow_147 ?_
        exact V_iret C hr hlk dX12_pairsNow_148 h
      · have h := h.2 q9
        refine V_iload_n C 3 dX12_pairsNow_133 rfl ?_
        refine V_goto C 148 dX12_pairsNow_134 (by decide) ?_
        exact V_iret C hr hlk dX12_pairsNow_148 h
    · have h := h.2 q8
      refine V_aload_n C 0 dX12_pairsNow_42 rfl ?_
      refine V_callVi (q := (RX12, TX12, 49)) (rest := []) C (nsM_mem (by decide)) (ceM_0 _) rfl (c_X12_arePairs l D cy ad A G  M _ h) (cwV 0 C.1.2.2.2.2 gX12_pairsNow_X12_arePairs rfl rfl rfl (by decide +kernel) ⟨by decide, by decide⟩) rfl rfl (Nat.le_of_ble_eq_true rfl) dX12_pairsNow_43 (fun r11 M12 h => ?_)
      obtain ⟨z13, h⟩ := h
      refine V_if_eq C 120 dX12_pairsNow_46 (by decide) (fun q14 => ?_) (fun q14 => ?_)
      · have h := h.1 q14
        refine V_drop (lv' := [(0, .ref (ad 0)), (1, .int v1), (2, .int v2), (3, .int v3), (4, .int v4)]) [0, 1, 2, 3, 4] rfl ?_
        exact L120 (w_X12_pairsNow_37  post  n) ih v1 v2 v3 v4 M12 h 
      · have h := h.2 q14
        refine V_aload_n C 0 dX12_pairsNow_49 rfl ?_
        refine V_iload_n C 1 dX12_pairsNow_50 rfl ?_
        refine V_callVi (q := (RX12, TX12, 49)) (rest := []) C (nsM_mem (by decide)) (ceM_0 _) rfl (c_X12_mostSteps l D cy ad A G v1 M12 _ h) (cwV 1 C.1.2.2.2.2 gX12_pairsNow_X12_mostSteps rfl rfl rfl (by decide +kernel) ⟨by decide, by decide⟩) rfl rfl (Nat.le_of_ble_eq_true rfl) dX12_pairsNow_51 (fun r15 M16 h => ?_)
        refine V_istore (lv' := [(6, .int r15), (0, .ref (ad 0)), (1, .int v1), (2, .int v2), (3, .int v3), (4, .int v4), (5, .int v5)]) C dX12_pairsNow_54 (by decide) rfl ?_
        refine V_aload_n C 1 dX12_pairsNow_56 rfl ?_
        refine V_callVi (q := (RX12, TX12, 49)) (rest := []) C (nsM_mem (by decide)) (ceM_0 _) rfl (c_X12_goTogether l D cy ad A G  M16 _ h) (cwV 0 C.1.2.2.2.2 gX12_pairsNow_X12_goTogether rfl rfl rfl (by decide +kernel) ⟨by decide, by decide⟩) rfl rfl (Nat.le_of_ble_eq_true rfl) dX12_pairsNow_57 (fun r18 M19 h => ?_)
        refine V_istore (lv' := [(7, .int r18), (6, .int r15), (0, .ref (ad 0)), (1, .int v1), (2, .int v2), (3, .int v3), (4, .int v4), (5, .int v5)]) C dX12_pairsNow_60 (by decide) rfl ?_
        refine V_iload C 1 dX12_pairsNow_62 rfl ?_
        refine V_iload_n C 5 dX12_pairsNow_64 rfl ?_
        refine V_icmp_lt C 81 dX12_pairsNow_65 (by decide) (fun q21 => ?_) (fun q21 => ?_)
        · have h := h.1 q21
          refine V_drop (lv' := [(0, .ref (ad 0)), (1, .int v1), (2, .int v2), (6, .int r15), (7, .int r18)]) [2, 3, 4, 1, 0] rfl ?_
          exact L81 (w_X12_pairsNow_37  post  n) ih v1 v2 r15 r18 M19 h 
        · have h := h.2 q21
          refine V_iload C 1 dX12_pairsNow_68 rfl ?_
          refine V_iload_n C 5 dX12_pairsNow_70 rfl ?_
          refine V_icmp_ne C 120 dX12_pairsNow_71 (by decide) (fun q22 => ?_) (fun q22 => ?_)
          · have h := h.1 q22
            refine V_drop (lv' := [(0, .ref (ad 0)), (1, .int v1), (2, .int v2), (3, .int v3), (4, .int v4)]) [2, 3, 4, 5, 6] rfl ?_
            exact L120 (w_X12_pairsNow_37  post  n) ih v1 v2 v3 v4 M19 h 
          · have h := h.2 q22
            refine V_iload C 0 dX12_pairsNow_74 rfl ?_
            refine V_iload C 6 dX12_pairsNow_76 rfl ?_
            refine V_icmp_ge C 120 dX12_pairsNow_78 (by decide) (fun q23 => ?_) (fun q23 => ?_)
            · have h := h.1 q23
              refine V_drop (lv' := [(0, .ref (ad 0)), (1, .int v1), (2, .int v2), (3, .int v3), (4, .int v4)]) [2, 3, 4, 5, 6] rfl ?_
              exact L120 (w_X12_pairsNow_37  post  n) ih v1 v2 v3 v4 M19 h 
            · have h := h.2 q23
              refine V_drop (lv' := [(0, .ref (ad 0)), (1, .int v1), (2, .int v2), (6, .int r15), (7, .int r18)]) [2, 3, 4, 1, 0] rfl ?_
              exact L81 (w_X12_pairsNow_37  post  n) ih v1 v2 r15 r18 M19 h 
  have L2 : ∀  (n : Nat) (v1 : Int32) (v2 : Int32) (v3 : Int32) (M : Mm), w_X12_pairsNow_2  post  n v1 v2 v3 M → V p l e (rmL 5) s m args below meth c (MQ below (va_Qi post (Wd D (tysC cy) ad nsM (ceM ad cy) ExM) A) args s 0 0 A) D A ad nsM (ceM ad cy) 9 M [(0, .ref (ad 0)), (1, .int v1), (2, .int v2), (3, .int v3)] 2 [] := by
    intro  n
    induction n with
    | zero => intro v1 v2 v3 M h; exact h.elim
    | succ n ih =>
    intro v1 v2 v3 M h 
    unfold w_X12_pairsNow_2 at h
    refine V_iload_n C 3 dX12_pairsNow_2 rfl ?_
    refine V_iconst (v := (5 : Int32)) C dX12_pairsNow_3 (by decide) ?_
    refine V_icmp_ge C 27 dX12_pairsNow_4 (by decide) (fun q24 => ?_) (fun q24 => ?_)
    · have h := h.1 q24
      refine V_ldc (v := (268435456 : Int32)) C dX12_pairsNow_27 m_X12_pairsNow_c207 ?_
      refine V_istore_n (lv' := [(3, .int (268435456 : Int32)), (0, .ref (ad 0)), (1, .int v1), (2, .int v2)]) C dX12_pairsNow_29 rfl (by decide) rfl ?_
      refine V_ldc (v := (268435456 : Int32)) C dX12_pairsNow_30 m_X12_pairsNow_c207 ?_
      refine V_istore (lv' := [(4, .int (268435456 : Int32)), (3, .int (268435456 : Int32)), (0, .ref (ad 0)), (1, .int v1), (2, .int v2)]) C dX12_pairsNow_32 (by decide) rfl ?_
      refine V_iconst (v := (1 : Int32)) C dX12_pairsNow_34 (by decide) ?_
      refine V_istore (lv' := [(5, .int (1 : Int32)), (4, .int (268435456 : Int32)), (3, .int (268435456 : Int32)), (0, .ref (ad 0)), (1, .int v1), (2, .int v2)]) C dX12_pairsNow_35 (by decide) rfl ?_
      refine V_drop (lv' := [(0, .ref (ad 0)), (1, .int v1), (2, .int v2), (3, .int (268435456 : Int32)), (4, .int (268435456 : Int32)), (5, .int (1 : Int32))]) [3, 4, 5, 2, 1, 0] rfl ?_
      obtain ⟨n0, h⟩ := h
      exact L37  n0 v1 v2 (268435456 : Int32) (268435456 : Int32) (1 : Int32) M h 
    · have h := h.2 q24
      refine V_aload_n C 0 dX12_pairsNow_7 rfl ?_
      refine V_get (k0 := 28) (Cn := RX12) (T := TX12) (N := 49) C (nsM_mem (by decide)) rfl iw_X12_pairsNow_X12 (by decide) rfl m_X12_pairsNow_f62 (ceM_0 _) rfl dX12_pairsNow_8 ?_
      refine V_iload_n C 3 dX12_pairsNow_11 rfl ?_
      refine V_iconst (v := (0 : Int32)) C dX12_pairsNow_12 (by decide) ?_
      have g25 := h.1
      have h := h.2
      refine V_iast (t0 := 1) (L := 5) C (nsM_mem (by decide)) (fun _ => rfl) rfl g25 dX12_pairsNow_13 (fun M26 e27 => ?_)
      have h := h M26 e27
      refine V_aload_n C 0 dX12_pairsNow_14 rfl ?_
      refine V_get (k0 := 29) (Cn := RX12) (T := TX12) (N := 49) C (nsM_mem (by decide)) rfl iw_X12_pairsNow_X12 (by decide) rfl m_X12_pairsNow_f65 (ceM_0 _) rfl dX12_pairsNow_15 ?_
      refine V_iload_n C 3 dX12_pairsNow_18 rfl ?_
      refine V_iconst (v := (0 : Int32)) C dX12_pairsNow_19 (by decide) ?_
      refine V_iast (t0 := 1) (L := 5) C (nsM_mem (by decide)) (fun _ => rfl) rfl g25 dX12_pairsNow_20 (fun M28 e29 => ?_)
      have h := h M28 e29
      refine V_iinc (v := (v3 + 1)) (lv' := [(3, .int (v3 + 1)), (0, .ref (ad 0)), (1, .int v1), (2, .int v2)]) C 3 dX12_pairsNow_21 rfl rfl (by decide) rfl ?_
      refine V_goto C 2 dX12_pairsNow_24 (by decide) ?_
      refine V_drop (lv' := [(0, .ref (ad 0)), (1, .int v1), (2, .int v2), (3, .int (v3 + 1))]) [1, 2, 3, 0] rfl ?_
      exact ih v1 v2 (v3 + 1) M28 h 
  unfold w_X12_pairsNow at h
  refine V_iconst (v := (0 : Int32)) C dX12_pairsNow_0 (by decide) ?_
  refine V_istore_n (lv' := [(3, .int (0 : Int32)), (0, .ref (ad 0)), (1, .int x1), (2, .int x2)]) C dX12_pairsNow_1 rfl (by decide) rfl ?_
  refine V_drop (lv' := [(0, .ref (ad 0)), (1, .int x1), (2, .int x2), (3, .int (0 : Int32))]) [1, 2, 3, 0] rfl ?_
  obtain ⟨n0, h⟩ := h
  exact L2  n0 x1 x2 (0 : Int32) M h 
def w_X12_pairs_26  (post : Int32 → Mm → Prop)  (v1 : Int32) (v2 : Int32) (M : Mm) : Prop :=
    w_X12_pairsNow v1 v2 M (fun r1 M2 => post r1 M2)
def w_X12_pairs (x1 : Int32) (x2 : Int32) (M : Mm) (post : Int32 → Mm → Prop) : Prop :=
  w_X12_isPassage x1 M (fun r4 M5 => ((¬ r4 = 0) → (((x2 = 0) → (w_X12_pairs_26  post  x1 x2 M5)) ∧ ((¬ x2 = 0) → (w_X12_within x2 (10 : Int32) (14 : Int32) M5 (fun r9 M10 => ((r9 = 0) → (post (-102 : Int32) M10)) ∧ ((¬ r9 = 0) → (w_X12_pairs_26  post  x1 x2 M10))))))) ∧ ((r4 = 0) → (post (-101 : Int32) M5)))
set_option maxHeartbeats 4000000 in
set_option maxRecDepth 100000 in
theorem c_X12_pairs (l : Launch) (D : va_G) (cy : Nat → ClassId) (ad : Nat → Nat) (A : Nat → Prop) (G : Gd A ad nsM)   (x1 : Int32) (x2 : Int32) (M : Mm) (post : Int32 → Mm → Prop) (h : w_X12_pairs x1 x2 M post) : CI l yX12_pairs wsX12_pairs (rmL 6) D (tysC cy) A ad nsM (ceM ad cy) ExM [.ref (ad 0), .int x1, .int x2] M post := by
  refine Met_V (cc := cX12_pairs) (maxL := 3) (ret := (some .int)) (by decide) rfl G Lo_M ExM_ok (Nat.le_of_ble_eq_true rfl) rfl ?_
  intro p e s m args below meth c C hr hlk
  have C : Cx p s m args c cX12_pairs 3 RX12 wsX12_pairs D (tysC cy) A ad nsM (ceM ad cy) ExM := C
  have L26 : ∀  (v1 : Int32) (v2 : Int32) (M : Mm), w_X12_pairs_26  post  v1 v2 M → V p l e (rmL 6) s m args below meth c (MQ below (va_Qi post (Wd D (tysC cy) ad nsM (ceM ad cy) ExM) A) args s 0 0 A) D A ad nsM (ceM ad cy) 3 M [(0, .ref (ad 0)), (1, .int v1), (2, .int v2)] 26 [] := by
    intro  v1 v2 M h 
    unfold w_X12_pairs_26 at h
    refine V_aload_n C 0 dX12_pairs_26 rfl ?_
    refine V_iload_n C 1 dX12_pairs_27 rfl ?_
    refine V_iload_n C 2 dX12_pairs_28 rfl ?_
    refine V_callVi (q := (RX12, TX12, 49)) (rest := []) C (nsM_mem (by decide)) (ceM_0 _) rfl (c_X12_pairsNow l D cy ad A G v1 v2 M _ h) (cwV 2 C.1.2.2.2.2 gX12_pairs_X12_pairsNow rfl rfl rfl (by decide +kernel) ⟨by decide, by decide⟩) rfl rfl (Nat.le_of_ble_eq_true rfl) dX12_pairs_29 (fun r1 M2 h => ?_)
    refine V_goto C 37 dX12_pairs_32 (by decide) ?_
    exact V_iret C hr hlk dX12_pairs_37 h
  unfold w_X12_pairs at h
  refine V_aload_n C 0 dX12_pairs_0 rfl ?_
  refine V_iload_n C 1 dX12_pairs_1 rfl ?_
  refine V_callVi (q := (RX12, TX12, 49)) (rest := []) C (nsM_mem (by decide)) (ceM_0 _) rfl (c_X12_isPassage l D cy ad A G x1 M _ h) (cwV 1 C.1.2.2.2.2 gX12_pairs_X12_isPassage rfl rfl rfl (by decide +kernel) ⟨by decide, by decide⟩) rfl rfl (Nat.le_of_ble_eq_true rfl) dX12_pairs_2 (fun r4 M5 h => ?_)
  obtain ⟨z6, h⟩ := h
  refine V_if_ne C 11 dX12_pairs_5 (by decide) (fun q7 => ?_) (fun q7 => ?_)
  · have h := h.1 q7
    refine V_iload_n C 2 dX12_pairs_11 rfl ?_
    refine V_if_eq C 26 dX12_pairs_12 (by decide) (fun q8 => ?_) (fun q8 => ?_)
    · have h := h.1 q8
      refine V_drop (lv' := [(0, .ref (ad 0)), (1, .int x1), (2, .int x2)]) [0, 1, 2] rfl ?_
      exact L26  x1 x2 M5 h 
    · have h := h.2 q8
      refine V_iload_n C 2 dX12_pairs_15 rfl ?_
      refine V_bipush (v := (10 : Int32)) C dX12_pairs_16 (by decide) ?_
      refine V_bipush (v := (14 : Int32)) C dX12_pairs_18 (by decide) ?_
      refine V_callSi (rest := []) C (c_X12_within l D cy ad A G x2 (10 : Int32) (14 : Int32) M5 _ h) (va_cwS 3 C.1.2.2.2.2 gX12_pairs_X12_within rfl rfl rfl (by decide +kernel) ⟨by decide, by decide⟩) rfl rfl (Nat.le_of_ble_eq_true rfl) dX12_pairs_20 (fun r9 M10 h => ?_)
      obtain ⟨z11, h⟩ := h
      refine V_if_eq C 35 dX12_pairs_23 (by decide) (fun q12 => ?_) (fun q12 => ?_)
      · have h := h.1 q12
        refine V_bipush (v := (-102 : Int32)) C dX12_pairs_35 (by decide) ?_
        exact V_iret C hr hlk dX12_pairs_37 h
      · have h := h.2 q12
        refine V_drop (lv' := [(0, .ref (ad 0)), (1, .int x1), (2, .int x2)]) [0, 1, 2] rfl ?_
        exact L26  x1 x2 M10 h 
  · have h := h.2 q7
    refine V_bipush (v := (-101 : Int32)) C dX12_pairs_8 (by decide) ?_
    exact V_iret C hr hlk dX12_pairs_10 h
def w_X12_ending_4  (post : Int32 → Mm → Prop)  : Nat → Int32 → Int32 → Int32 → Mm → Prop
  | 0 => fun _ _ _ _ => False
  | n + 1 => fun v1 v2 v3 M =>
    (((M.1 0 2) ≤ v3) → (post v2 M)) ∧ ((¬ (M.1 0 2) ≤ v3) → (w_X12_endsAt v3 v1 M (fun r2 M3 => ((r2 = 0) → (w_X12_ending_4  post  n v1 (v2 + (0 : Int32)) (v3 + 1) M3)) ∧ ((¬ r2 = 0) → (w_X12_ending_4  post  n v1 (v2 + (1 : Int32)) (v3 + 1) M3)))))
def w_X12_ending (x1 : Int32) (M : Mm) (post : Int32 → Mm → Prop) : Prop :=
  ∃ n0 : Nat, w_X12_ending_4  post  n0 x1 (0 : Int32) (0 : Int32) M
theorem iw_X12_ending_X12 : ∀ w ∈ u_ws RX12 TX12 49, w ∈ wsX12_ending := by decide +kernel
theorem m_X12_ending_f153 : Cond.fieldLink RX12 153 "ShameYardsModel" "passages" "I" ∈ wsX12_ending := by decide +kernel
set_option maxHeartbeats 4000000 in
set_option maxRecDepth 100000 in
theorem c_X12_ending (l : Launch) (D : va_G) (cy : Nat → ClassId) (ad : Nat → Nat) (A : Nat → Prop) (G : Gd A ad nsM)   (x1 : Int32) (M : Mm) (post : Int32 → Mm → Prop) (h : w_X12_ending x1 M post) : CI l yX12_ending wsX12_ending (rmL 3) D (tysC cy) A ad nsM (ceM ad cy) ExM [.ref (ad 0), .int x1] M post := by
  refine Met_V (cc := cX12_ending) (maxL := 4) (ret := (some .int)) (by decide) rfl G Lo_M ExM_ok (Nat.le_of_ble_eq_true rfl) rfl ?_
  intro p e s m args below meth c C hr hlk
  have C : Cx p s m args c cX12_ending 4 RX12 wsX12_ending D (tysC cy) A ad nsM (ceM ad cy) ExM := C
  have L4 : ∀  (n : Nat) (v1 : Int32) (v2 : Int32) (v3 : Int32) (M : Mm), w_X12_ending_4  post  n v1 v2 v3 M → V p l e (rmL 3) s m args below meth c (MQ below (va_Qi post (Wd D (tysC cy) ad nsM (ceM ad cy) ExM) A) args s 0 0 A) D A ad nsM (ceM ad cy) 4 M [(0, .ref (ad 0)), (1, .int v1), (2, .int v2), (3, .int v3)] 4 [] := by
    intro  n
    induction n with
    | zero => intro v1 v2 v3 M h; exact h.elim
    | succ n ih =>
    intro v1 v2 v3 M h 
    unfold w_X12_ending_4 at h
    refine V_iload_n C 3 dX12_ending_4 rfl ?_
    refine V_aload_n C 0 dX12_ending_5 rfl ?_
    refine V_get (k0 := 2) (Cn := RX12) (T := TX12) (N := 49) C (nsM_mem (by decide)) rfl iw_X12_ending_X12 (by decide) rfl m_X12_ending_f153 (ceM_0 _) rfl dX12_ending_6 ?_
    refine V_icmp_ge C 35 dX12_ending_9 (by decide) (fun q1 => ?_) (fun q1 => ?_)
    · have h := h.1 q1
      refine V_iload_n C 2 dX12_ending_35 rfl ?_
      exact V_iret C hr hlk dX12_ending_36 h
    · have h := h.2 q1
      refine V_iload_n C 2 dX12_ending_12 rfl ?_
      refine V_aload_n C 0 dX12_ending_13 rfl ?_
      refine V_iload_n C 3 dX12_ending_14 rfl ?_
      refine V_iload_n C 1 dX12_ending_15 rfl ?_
      refine V_callVi (q := (RX12, TX12, 49)) (rest := [.int v2]) C (nsM_mem (by decide)) (ceM_0 _) rfl (c_X12_endsAt l D cy ad A G v3 v1 M _ h) (cwV 2 C.1.2.2.2.2 gX12_ending_X12_endsAt rfl rfl rfl (by decide +kernel) ⟨by decide, by decide⟩) rfl rfl (Nat.le_of_ble_eq_true rfl) dX12_ending_16 (fun r2 M3 h => ?_)
      obtain ⟨z4, h⟩ := h
      refine V_if_eq C 26 dX12_ending_19 (by decide) (fun q5 => ?_) (fun q5 => ?_)
      · have h := h.1 q5
        refine V_iconst (v := (0 : Int32)) C dX12_ending_26 (by decide) ?_
        refine V_iadd C dX12_ending_27 ?_
        refine V_istore_n (lv' := [(2, .int (v2 + (0 : Int32))), (0, .ref (ad 0)), (1, .int v1), (3, .int v3)]) C dX12_ending_28 rfl (by decide) rfl ?_
        refine V_iinc (v := (v3 + 1)) (lv' := [(3, .int (v3 + 1)), (2, .int (v2 + (0 : Int32))), (0, .ref (ad 0)), (1, .int v1)]) C 3 dX12_ending_29 rfl rfl (by decide) rfl ?_
        refine V_goto C 4 dX12_ending_32 (by decide) ?_
        refine V_drop (lv' := [(0, .ref (ad 0)), (1, .int v1), (2, .int (v2 + (0 : Int32))), (3, .int (v3 + 1))]) [2, 3, 1, 0] rfl ?_
        exact ih v1 (v2 + (0 : Int32)) (v3 + 1) M3 h 
      · have h := h.2 q5
        refine V_iconst (v := (1 : Int32)) C dX12_ending_22 (by decide) ?_
        refine V_goto C 27 dX12_ending_23 (by decide) ?_
        refine V_iadd C dX12_ending_27 ?_
        refine V_istore_n (lv' := [(2, .int (v2 + (1 : Int32))), (0, .ref (ad 0)), (1, .int v1), (3, .int v3)]) C dX12_ending_28 rfl (by decide) rfl ?_
        refine V_iinc (v := (v3 + 1)) (lv' := [(3, .int (v3 + 1)), (2, .int (v2 + (1 : Int32))), (0, .ref (ad 0)), (1, .int v1)]) C 3 dX12_ending_29 rfl rfl (by decide) rfl ?_
        refine V_goto C 4 dX12_ending_32 (by decide) ?_
        refine V_drop (lv' := [(0, .ref (ad 0)), (1, .int v1), (2, .int (v2 + (1 : Int32))), (3, .int (v3 + 1))]) [2, 3, 1, 0] rfl ?_
        exact ih v1 (v2 + (1 : Int32)) (v3 + 1) M3 h 
  unfold w_X12_ending at h
  refine V_iconst (v := (0 : Int32)) C dX12_ending_0 (by decide) ?_
  refine V_istore_n (lv' := [(2, .int (0 : Int32)), (0, .ref (ad 0)), (1, .int x1)]) C dX12_ending_1 rfl (by decide) rfl ?_
  refine V_iconst (v := (0 : Int32)) C dX12_ending_2 (by decide) ?_
  refine V_istore_n (lv' := [(3, .int (0 : Int32)), (2, .int (0 : Int32)), (0, .ref (ad 0)), (1, .int x1)]) C dX12_ending_3 rfl (by decide) rfl ?_
  refine V_drop (lv' := [(0, .ref (ad 0)), (1, .int x1), (2, .int (0 : Int32)), (3, .int (0 : Int32))]) [2, 3, 1, 0] rfl ?_
  obtain ⟨n0, h⟩ := h
  exact L4  n0 x1 (0 : Int32) (0 : Int32) M h 
def w_X12_turn_71  (post : Mm → Prop) (k25 : Int32 → Int32 → Mm → Prop) : Nat → Int32 → Int32 → Int32 → Int32 → Mm → Prop
  | 0 => fun _ _ _ _ _ => False
  | n + 1 => fun v1 v2 v3 v4 M =>
    (((M.1 0 2) ≤ v4) → (k25 v1 (v2 + 1) M)) ∧ ((¬ (M.1 0 2) ≤ v4) → (w_X12_endsAt v4 v2 M (fun r2 M3 => ((r2 = 0) → (w_X12_turn_71  post k25 n v1 v2 v3 (v4 + 1) M3)) ∧ ((¬ r2 = 0) → (w_X12_beyond v4 v2 M3 (fun r6 M7 => (vp_in r6 5) ∧ ((vp_in (v1 + v2) 10) ∧ ((¬ v3 = 0) ∧ (∀ M12 : Mm, M12 = wJ M7 21 (vp_updL (M7.2 21) r6.toNatClampNeg ((M7.2 21 r6.toNatClampNeg) + ((M7.2 20 (v1 + v2).toNatClampNeg) * (((420 : Int32) / v3).toInt64)))) → (w_X12_turn_71  post k25 n v1 v2 v3 (v4 + 1) M12))))))))))
def w_X12_turn_134  (post : Mm → Prop)  : Nat → Int32 → Int32 → Mm → Prop
  | 0 => fun _ _ _ => False
  | n + 1 => fun v1 v2 M =>
    (((M.1 0 1) ≤ v2) → (post M)) ∧ ((¬ (M.1 0 1) ≤ v2) → ((vp_in v2 5) ∧ ((vp_in (v1 + v2) 10) ∧ (∀ M17 : Mm, M17 = wJ M 20 (vp_updL (M.2 20) (v1 + v2).toNatClampNeg (M.2 21 v2.toNatClampNeg)) → (w_X12_turn_134  post  n v1 (v2 + 1) M17)))))
def w_X12_turn_25  (post : Mm → Prop)  : Nat → Int32 → Int32 → Mm → Prop
  | 0 => fun _ _ _ => False
  | n + 1 => fun v1 v2 M =>
    (((M.1 0 1) ≤ v2) → (∃ n0 : Nat, w_X12_turn_134  post  n0 v1 (0 : Int32) M)) ∧ ((¬ (M.1 0 1) ≤ v2) → (w_X12_ending v2 M (fun r20 M21 => (vp_in v2 5) ∧ (((¬ r20 = 0) → (∀ M25 : Mm, M25 = wJ M21 21 (vp_updL (M21.2 21) v2.toNatClampNeg ((M21.2 21 v2.toNatClampNeg) + (0 : Int64))) → (∃ n0 : Nat, w_X12_turn_71  post (w_X12_turn_25  post  n) n0 v1 v2 r20 (0 : Int32) M25))) ∧ ((r20 = 0) → ((vp_in (v1 + v2) 10) ∧ (∀ M28 : Mm, M28 = wJ M21 21 (vp_updL (M21.2 21) v2.toNatClampNeg ((M21.2 21 v2.toNatClampNeg) + ((M21.2 20 (v1 + v2).toNatClampNeg) * (420 : Int64)))) → (∃ n0 : Nat, w_X12_turn_71  post (w_X12_turn_25  post  n) n0 v1 v2 r20 (0 : Int32) M28))))))))
def w_X12_turn_2  (post : Mm → Prop)  : Nat → Int32 → Int32 → Mm → Prop
  | 0 => fun _ _ _ => False
  | n + 1 => fun v1 v2 M =>
    (((M.1 0 1) ≤ v2) → (∃ n0 : Nat, w_X12_turn_25  post  n0 v1 (0 : Int32) M)) ∧ ((¬ (M.1 0 1) ≤ v2) → ((vp_in v2 5) ∧ (∀ M32 : Mm, M32 = wJ M 21 (vp_updL (M.2 21) v2.toNatClampNeg (0 : Int64)) → (w_X12_turn_2  post  n v1 (v2 + 1) M32))))
def w_X12_turn (x1 : Int32) (M : Mm) (post : Mm → Prop) : Prop :=
  ∃ n0 : Nat, w_X12_turn_2  post  n0 x1 (0 : Int32) M
theorem iw_X12_turn_X12 : ∀ w ∈ u_ws RX12 TX12 49, w ∈ wsX12_turn := by decide +kernel
theorem m_X12_turn_f153 : Cond.fieldLink RX12 153 "ShameYardsModel" "passages" "I" ∈ wsX12_turn := by decide +kernel
theorem m_X12_turn_f72 : Cond.fieldLink RX12 72 "ShameYardsModel" "next" "[J" ∈ wsX12_turn := by decide +kernel
theorem m_X12_turn_f68 : Cond.fieldLink RX12 68 "ShameYardsModel" "likely" "[J" ∈ wsX12_turn := by decide +kernel
theorem m_X12_turn_f150 : Cond.fieldLink RX12 150 "ShameYardsModel" "rooms" "I" ∈ wsX12_turn := by decide +kernel
theorem m_X12_turn_c259 : Jvm.Cond.constantLong RX12 259 (420) ∈ wsX12_turn := by decide +kernel
set_option maxHeartbeats 4000000 in
set_option maxRecDepth 100000 in
theorem c_X12_turn (l : Launch) (D : va_G) (cy : Nat → ClassId) (ad : Nat → Nat) (A : Nat → Prop) (G : Gd A ad nsM)   (x1 : Int32) (M : Mm) (post : Mm → Prop) (h : w_X12_turn x1 M post) : CV l yX12_turn wsX12_turn (rmL 4) D (tysC cy) A ad nsM (ceM ad cy) ExM [.ref (ad 0), .int x1] M post := by
  refine Met_V (cc := cX12_turn) (maxL := 5) (ret := none) (by decide) rfl G Lo_M ExM_ok (Nat.le_of_ble_eq_true rfl) rfl ?_
  intro p e s m args below meth c C hr hlk
  have C : Cx p s m args c cX12_turn 5 RX12 wsX12_turn D (tysC cy) A ad nsM (ceM ad cy) ExM := C
  have L71 : ∀ (k25 : Int32 → Int32 → Mm → Prop) (hk25 : ∀ (v1 : Int32) (v2 : Int32) (M : Mm), k25 v1 v2 M → V p l e (rmL 4) s m args below meth c (MQ below (va_Qv post (Wd D (tysC cy) ad nsM (ceM ad cy) ExM) A) args s 0 0 A) D A ad nsM (ceM ad cy) 5 M [(0, .ref (ad 0)), (1, .int v1), (2, .int v2)] 25 []) (n : Nat) (v1 : Int32) (v2 : Int32) (v3 : Int32) (v4 : Int32) (M : Mm), w_X12_turn_71  post k25 n v1 v2 v3 v4 M → V p l e (rmL 4) s m args below meth c (MQ below (va_Qv post (Wd D (tysC cy) ad nsM (ceM ad cy) ExM) A) args s 0 0 A) D A ad nsM (ceM ad cy) 5 M [(0, .ref (ad 0)), (1, .int v1), (2, .int v2), (3, .int v3), (4, .int v4)] 71 [] := by
    intro k25 hk25 n
    induction n with
    | zero => intro v1 v2 v3 v4 M h; exact h.elim
    | succ n ih =>
    intro v1 v2 v3 v4 M h 
    unfold w_X12_turn_71 at h
    refine V_iload C 4 dX12_turn_71 rfl ?_
    refine V_aload_n C 0 dX12_turn_73 rfl ?_
    refine V_get (k0 := 2) (Cn := RX12) (T := TX12) (N := 49) C (nsM_mem (by decide)) rfl iw_X12_turn_X12 (by decide) rfl m_X12_turn_f153 (ceM_0 _) rfl dX12_turn_74 ?_
    refine V_icmp_ge C 126 dX12_turn_77 (by decide) (fun q1 => ?_) (fun q1 => ?_)
    · have h := h.1 q1
      refine V_iinc (v := (v2 + 1)) (lv' := [(2, .int (v2 + 1)), (0, .ref (ad 0)), (1, .int v1), (3, .int v3), (4, .int v4)]) C 2 dX12_turn_126 rfl rfl (by decide) rfl ?_
      refine V_goto C 25 dX12_turn_129 (by decide) ?_
      refine V_drop (lv' := [(0, .ref (ad 0)), (1, .int v1), (2, .int (v2 + 1))]) [1, 2, 0] rfl ?_
      exact hk25 v1 (v2 + 1) M h 
    · have h := h.2 q1
      refine V_aload_n C 0 dX12_turn_80 rfl ?_
      refine V_iload C 4 dX12_turn_81 rfl ?_
      refine V_iload_n C 2 dX12_turn_83 rfl ?_
      refine V_callVi (q := (RX12, TX12, 49)) (rest := []) C (nsM_mem (by decide)) (ceM_0 _) rfl (c_X12_endsAt l D cy ad A G v4 v2 M _ h) (cwV 2 C.1.2.2.2.2 gX12_turn_X12_endsAt rfl rfl rfl (by decide +kernel) ⟨by decide, by decide⟩) rfl rfl (Nat.le_of_ble_eq_true rfl) dX12_turn_84 (fun r2 M3 h => ?_)
      obtain ⟨z4, h⟩ := h
      refine V_if_eq C 120 dX12_turn_87 (by decide) (fun q5 => ?_) (fun q5 => ?_)
      · have h := h.1 q5
        refine V_iinc (v := (v4 + 1)) (lv' := [(4, .int (v4 + 1)), (0, .ref (ad 0)), (1, .int v1), (2, .int v2), (3, .int v3)]) C 4 dX12_turn_120 rfl rfl (by decide) rfl ?_
        refine V_goto C 71 dX12_turn_123 (by decide) ?_
        refine V_drop (lv' := [(0, .ref (ad 0)), (1, .int v1), (2, .int v2), (3, .int v3), (4, .int (v4 + 1))]) [1, 2, 3, 4, 0] rfl ?_
        exact ih v1 v2 v3 (v4 + 1) M3 h 
      · have h := h.2 q5
        refine V_aload_n C 0 dX12_turn_90 rfl ?_
        refine V_get (k0 := 31) (Cn := RX12) (T := TX12) (N := 49) C (nsM_mem (by decide)) rfl iw_X12_turn_X12 (by decide) rfl m_X12_turn_f72 (ceM_0 _) rfl dX12_turn_91 ?_
        refine V_aload_n C 0 dX12_turn_94 rfl ?_
        refine V_iload C 4 dX12_turn_95 rfl ?_
        refine V_iload_n C 2 dX12_turn_97 rfl ?_
        refine V_callVi (q := (RX12, TX12, 49)) (rest := [.ref (ad 21)]) C (nsM_mem (by decide)) (ceM_0 _) rfl (c_X12_beyond l D cy ad A G v4 v2 M3 _ h) (cwV 2 C.1.2.2.2.2 gX12_turn_X12_beyond rfl rfl rfl (by decide +kernel) ⟨by decide, by decide⟩) rfl rfl (Nat.le_of_ble_eq_true rfl) dX12_turn_98 (fun r6 M7 h => ?_)
        refine V_dup2 C dX12_turn_101 rfl rfl ?_
        have g9 := h.1
        have h := h.2
        refine V_lald (t0 := 2) (L := 5) C (nsM_mem (by decide)) (fun _ => rfl) rfl g9 dX12_turn_102 ?_
        refine V_aload_n C 0 dX12_turn_103 rfl ?_
        refine V_get (k0 := 30) (Cn := RX12) (T := TX12) (N := 49) C (nsM_mem (by decide)) rfl iw_X12_turn_X12 (by decide) rfl m_X12_turn_f68 (ceM_0 _) rfl dX12_turn_104 ?_
        refine V_iload_n C 1 dX12_turn_107 rfl ?_
        refine V_iload_n C 2 dX12_turn_108 rfl ?_
        refine V_iadd C dX12_turn_109 ?_
        have g10 := h.1
        have h := h.2
        refine V_lald (t0 := 2) (L := 10) C (nsM_mem (by decide)) (fun _ => rfl) rfl g10 dX12_turn_110 ?_
        refine V_sipush (v := (420 : Int32)) C dX12_turn_111 (by decide) ?_
        refine V_iload_n C 3 dX12_turn_114 rfl ?_
        have g11 := h.1
        have h := h.2
        refine V_idiv C dX12_turn_115 g11 ?_
        refine V_i2l C dX12_turn_116 ?_
        refine V_lmul C dX12_turn_117 ?_
        refine V_ladd C dX12_turn_118 ?_
        refine V_last (t0 := 2) (L := 5) C (nsM_mem (by decide)) (fun _ => rfl) rfl g9 dX12_turn_119 (fun M12 e13 => ?_)
        have h := h M12 e13
        refine V_iinc (v := (v4 + 1)) (lv' := [(4, .int (v4 + 1)), (0, .ref (ad 0)), (1, .int v1), (2, .int v2), (3, .int v3)]) C 4 dX12_turn_120 rfl rfl (by decide) rfl ?_
        refine V_goto C 71 dX12_turn_123 (by decide) ?_
        refine V_drop (lv' := [(0, .ref (ad 0)), (1, .int v1), (2, .int v2), (3, .int v3), (4, .int (v4 + 1))]) [1, 2, 3, 4, 0] rfl ?_
        exact ih v1 v2 v3 (v4 + 1) M12 h 
  have L134 : ∀  (n : Nat) (v1 : Int32) (v2 : Int32) (M : Mm), w_X12_turn_134  post  n v1 v2 M → V p l e (rmL 4) s m args below meth c (MQ below (va_Qv post (Wd D (tysC cy) ad nsM (ceM ad cy) ExM) A) args s 0 0 A) D A ad nsM (ceM ad cy) 5 M [(0, .ref (ad 0)), (1, .int v1), (2, .int v2)] 134 [] := by
    intro  n
    induction n with
    | zero => intro v1 v2 M h; exact h.elim
    | succ n ih =>
    intro v1 v2 M h 
    unfold w_X12_turn_134 at h
    refine V_iload_n C 2 dX12_turn_134 rfl ?_
    refine V_aload_n C 0 dX12_turn_135 rfl ?_
    refine V_get (k0 := 1) (Cn := RX12) (T := TX12) (N := 49) C (nsM_mem (by decide)) rfl iw_X12_turn_X12 (by decide) rfl m_X12_turn_f150 (ceM_0 _) rfl dX12_turn_136 ?_
    refine V_icmp_ge C 162 dX12_turn_139 (by decide) (fun q14 => ?_) (fun q14 => ?_)
    · have h := h.1 q14
      exact V_vret C hr hlk dX12_turn_162 h
    · have h := h.2 q14
      refine V_aload_n C 0 dX12_turn_142 rfl ?_
      refine V_get (k0 := 30) (Cn := RX12) (T := TX12) (N := 49) C (nsM_mem (by decide)) rfl iw_X12_turn_X12 (by decide) rfl m_X12_turn_f68 (ceM_0 _) rfl dX12_turn_143 ?_
      refine V_iload_n C 1 dX12_turn_146 rfl ?_
      refine V_iload_n C 2 dX12_turn_147 rfl ?_
      refine V_iadd C dX12_turn_148 ?_
      refine V_aload_n C 0 dX12_turn_149 rfl ?_
      refine V_get (k0 := 31) (Cn := RX12) (T := TX12) (N := 49) C (nsM_mem (by decide)) rfl iw_X12_turn_X12 (by decide) rfl m_X12_turn_f72 (ceM_0 _) rfl dX12_turn_150 ?_
      refine V_iload_n C 2 dX12_turn_153 rfl ?_
      have g15 := h.1
      have h := h.2
      refine V_lald (t0 := 2) (L := 5) C (nsM_mem (by decide)) (fun _ => rfl) rfl g15 dX12_turn_154 ?_
      have g16 := h.1
      have h := h.2
      refine V_last (t0 := 2) (L := 10) C (nsM_mem (by decide)) (fun _ => rfl) rfl g16 dX12_turn_155 (fun M17 e18 => ?_)
      have h := h M17 e18
      refine V_iinc (v := (v2 + 1)) (lv' := [(2, .int (v2 + 1)), (0, .ref (ad 0)), (1, .int v1)]) C 2 dX12_turn_156 rfl rfl (by decide) rfl ?_
      refine V_goto C 134 dX12_turn_159 (by decide) ?_
      refine V_drop (lv' := [(0, .ref (ad 0)), (1, .int v1), (2, .int (v2 + 1))]) [1, 2, 0] rfl ?_
      exact ih v1 (v2 + 1) M17 h 
  have L25 : ∀  (n : Nat) (v1 : Int32) (v2 : Int32) (M : Mm), w_X12_turn_25  post  n v1 v2 M → V p l e (rmL 4) s m args below meth c (MQ below (va_Qv post (Wd D (tysC cy) ad nsM (ceM ad cy) ExM) A) args s 0 0 A) D A ad nsM (ceM ad cy) 5 M [(0, .ref (ad 0)), (1, .int v1), (2, .int v2)] 25 [] := by
    intro  n
    induction n with
    | zero => intro v1 v2 M h; exact h.elim
    | succ n ih =>
    intro v1 v2 M h 
    unfold w_X12_turn_25 at h
    refine V_iload_n C 2 dX12_turn_25 rfl ?_
    refine V_aload_n C 0 dX12_turn_26 rfl ?_
    refine V_get (k0 := 1) (Cn := RX12) (T := TX12) (N := 49) C (nsM_mem (by decide)) rfl iw_X12_turn_X12 (by decide) rfl m_X12_turn_f150 (ceM_0 _) rfl dX12_turn_27 ?_
    refine V_icmp_ge C 132 dX12_turn_30 (by decide) (fun q19 => ?_) (fun q19 => ?_)
    · have h := h.1 q19
      refine V_iconst (v := (0 : Int32)) C dX12_turn_132 (by decide) ?_
      refine V_istore_n (lv' := [(2, .int (0 : Int32)), (0, .ref (ad 0)), (1, .int v1)]) C dX12_turn_133 rfl (by decide) rfl ?_
      refine V_drop (lv' := [(0, .ref (ad 0)), (1, .int v1), (2, .int (0 : Int32))]) [1, 2, 0] rfl ?_
      obtain ⟨n0, h⟩ := h
      exact L134  n0 v1 (0 : Int32) M h 
    · have h := h.2 q19
      refine V_aload_n C 0 dX12_turn_33 rfl ?_
      refine V_iload_n C 2 dX12_turn_34 rfl ?_
      refine V_callVi (q := (RX12, TX12, 49)) (rest := []) C (nsM_mem (by decide)) (ceM_0 _) rfl (c_X12_ending l D cy ad A G v2 M _ h) (cwV 1 C.1.2.2.2.2 gX12_turn_X12_ending rfl rfl rfl (by decide +kernel) ⟨by decide, by decide⟩) rfl rfl (Nat.le_of_ble_eq_true rfl) dX12_turn_35 (fun r20 M21 h => ?_)
      refine V_istore_n (lv' := [(3, .int r20), (0, .ref (ad 0)), (1, .int v1), (2, .int v2)]) C dX12_turn_38 rfl (by decide) rfl ?_
      refine V_aload_n C 1 dX12_turn_39 rfl ?_
      refine V_get (k0 := 31) (Cn := RX12) (T := TX12) (N := 49) C (nsM_mem (by decide)) rfl iw_X12_turn_X12 (by decide) rfl m_X12_turn_f72 (ceM_0 _) rfl dX12_turn_40 ?_
      refine V_iload_n C 3 dX12_turn_43 rfl ?_
      refine V_dup2 C dX12_turn_44 rfl rfl ?_
      have g23 := h.1
      have h := h.2
      refine V_lald (t0 := 2) (L := 5) C (nsM_mem (by decide)) (fun _ => rfl) rfl g23 dX12_turn_45 ?_
      refine V_iload_n C 0 dX12_turn_46 rfl ?_
      refine V_if_ne C 65 dX12_turn_47 (by decide) (fun q24 => ?_) (fun q24 => ?_)
      · have h := h.1 q24
        refine V_lconst (v := (0 : Int64)) C dX12_turn_65 (by decide) ?_
        refine V_ladd C dX12_turn_66 ?_
        refine V_last (t0 := 2) (L := 5) C (nsM_mem (by decide)) (fun _ => rfl) rfl g23 dX12_turn_67 (fun M25 e26 => ?_)
        have h := h M25 e26
        refine V_iconst (v := (0 : Int32)) C dX12_turn_68 (by decide) ?_
        refine V_istore (lv' := [(4, .int (0 : Int32)), (3, .int r20), (0, .ref (ad 0)), (1, .int v1), (2, .int v2)]) C dX12_turn_69 (by decide) rfl ?_
        refine V_drop (lv' := [(0, .ref (ad 0)), (1, .int v1), (2, .int v2), (3, .int r20), (4, .int (0 : Int32))]) [2, 3, 4, 1, 0] rfl ?_
        obtain ⟨n0, h⟩ := h
        exact L71 (w_X12_turn_25  post  n) ih n0 v1 v2 r20 (0 : Int32) M25 h 
      · have h := h.2 q24
        refine V_aload_n C 1 dX12_turn_50 rfl ?_
        refine V_get (k0 := 30) (Cn := RX12) (T := TX12) (N := 49) C (nsM_mem (by decide)) rfl iw_X12_turn_X12 (by decide) rfl m_X12_turn_f68 (ceM_0 _) rfl dX12_turn_51 ?_
        refine V_iload_n C 2 dX12_turn_54 rfl ?_
        refine V_iload_n C 3 dX12_turn_55 rfl ?_
        refine V_iadd C dX12_turn_56 ?_
        have g27 := h.1
        have h := h.2
        refine V_lald (t0 := 2) (L := 10) C (nsM_mem (by decide)) (fun _ => rfl) rfl g27 dX12_turn_57 ?_
        refine V_ldc2 (v := (420 : Int64)) C dX12_turn_58 m_X12_turn_c259 ?_
        refine V_lmul C dX12_turn_61 ?_
        refine V_goto C 66 dX12_turn_62 (by decide) ?_
        refine V_ladd C dX12_turn_66 ?_
        refine V_last (t0 := 2) (L := 5) C (nsM_mem (by decide)) (fun _ => rfl) rfl g23 dX12_turn_67 (fun M28 e29 => ?_)
        have h := h M28 e29
        refine V_iconst (v := (0 : Int32)) C dX12_turn_68 (by decide) ?_
        refine V_istore (lv' := [(4, .int (0 : Int32)), (3, .int r20), (0, .ref (ad 0)), (1, .int v1), (2, .int v2)]) C dX12_turn_69 (by decide) rfl ?_
        refine V_drop (lv' := [(0, .ref (ad 0)), (1, .int v1), (2, .int v2), (3, .int r20), (4, .int (0 : Int32))]) [2, 3, 4, 1, 0] rfl ?_
        obtain ⟨n0, h⟩ := h
        exact L71 (w_X12_turn_25  post  n) ih n0 v1 v2 r20 (0 : Int32) M28 h 
  have L2 : ∀  (n : Nat) (v1 : Int32) (v2 : Int32) (M : Mm), w_X12_turn_2  post  n v1 v2 M → V p l e (rmL 4) s m args below meth c (MQ below (va_Qv post (Wd D (tysC cy) ad nsM (ceM ad cy) ExM) A) args s 0 0 A) D A ad nsM (ceM ad cy) 5 M [(0, .ref (ad 0)), (1, .int v1), (2, .int v2)] 2 [] := by
    intro  n
    induction n with
    | zero => intro v1 v2 M h; exact h.elim
    | succ n ih =>
    intro v1 v2 M h 
    unfold w_X12_turn_2 at h
    refine V_iload_n C 2 dX12_turn_2 rfl ?_
    refine V_aload_n C 0 dX12_turn_3 rfl ?_
    refine V_get (k0 := 1) (Cn := RX12) (T := TX12) (N := 49) C (nsM_mem (by decide)) rfl iw_X12_turn_X12 (by decide) rfl m_X12_turn_f150 (ceM_0 _) rfl dX12_turn_4 ?_
    refine V_icmp_ge C 23 dX12_turn_7 (by decide) (fun q30 => ?_) (fun q30 => ?_)
    · have h := h.1 q30
      refine V_iconst (v := (0 : Int32)) C dX12_turn_23 (by decide) ?_
      refine V_istore_n (lv' := [(2, .int (0 : Int32)), (0, .ref (ad 0)), (1, .int v1)]) C dX12_turn_24 rfl (by decide) rfl ?_
      refine V_drop (lv' := [(0, .ref (ad 0)), (1, .int v1), (2, .int (0 : Int32))]) [1, 2, 0] rfl ?_
      obtain ⟨n0, h⟩ := h
      exact L25  n0 v1 (0 : Int32) M h 
    · have h := h.2 q30
      refine V_aload_n C 0 dX12_turn_10 rfl ?_
      refine V_get (k0 := 31) (Cn := RX12) (T := TX12) (N := 49) C (nsM_mem (by decide)) rfl iw_X12_turn_X12 (by decide) rfl m_X12_turn_f72 (ceM_0 _) rfl dX12_turn_11 ?_
      refine V_iload_n C 2 dX12_turn_14 rfl ?_
      refine V_lconst (v := (0 : Int64)) C dX12_turn_15 (by decide) ?_
      have g31 := h.1
      have h := h.2
      refine V_last (t0 := 2) (L := 5) C (nsM_mem (by decide)) (fun _ => rfl) rfl g31 dX12_turn_16 (fun M32 e33 => ?_)
      have h := h M32 e33
      refine V_iinc (v := (v2 + 1)) (lv' := [(2, .int (v2 + 1)), (0, .ref (ad 0)), (1, .int v1)]) C 2 dX12_turn_17 rfl rfl (by decide) rfl ?_
      refine V_goto C 2 dX12_turn_20 (by decide) ?_
      refine V_drop (lv' := [(0, .ref (ad 0)), (1, .int v1), (2, .int (v2 + 1))]) [1, 2, 0] rfl ?_
      exact ih v1 (v2 + 1) M32 h 
  unfold w_X12_turn at h
  refine V_iconst (v := (0 : Int32)) C dX12_turn_0 (by decide) ?_
  refine V_istore_n (lv' := [(2, .int (0 : Int32)), (0, .ref (ad 0)), (1, .int x1)]) C dX12_turn_1 rfl (by decide) rfl ?_
  refine V_drop (lv' := [(0, .ref (ad 0)), (1, .int x1), (2, .int (0 : Int32))]) [1, 2, 0] rfl ?_
  obtain ⟨n0, h⟩ := h
  exact L2  n0 x1 (0 : Int32) M h 
def w_X12_meetNow_31  (post : Int64 → Mm → Prop) (k3 : Int32 → Int32 → Int32 → Int32 → Int32 → Mm → Prop) (v1 : Int32) (v2 : Int32) (v3 : Int32) (v4 : Int32) (v5 : Int32) (s1 : Int32) (s2 : Int64) (M : Mm) : Prop :=
    (vp_in s1 10) ∧ (∀ M2 : Mm, M2 = wJ M 20 (vp_updL (M.2 20) s1.toNatClampNeg s2) → ((vp_in v2 5) ∧ (((¬ (M2.1 7 v2.toNatClampNeg) = v5) → ((vp_in ((5 : Int32) + v5) 10) ∧ (∀ M7 : Mm, M7 = wJ M2 20 (vp_updL (M2.2 20) ((5 : Int32) + v5).toNatClampNeg (0 : Int64)) → (k3 v1 v2 v3 v4 (v5 + 1) M7)))) ∧ (((M2.1 7 v2.toNatClampNeg) = v5) → ((vp_in ((5 : Int32) + v5) 10) ∧ (∀ M10 : Mm, M10 = wJ M2 20 (vp_updL (M2.2 20) ((5 : Int32) + v5).toNatClampNeg (1 : Int64)) → (k3 v1 v2 v3 v4 (v5 + 1) M10)))))))
def w_X12_meetNow_105  (post : Int64 → Mm → Prop)  : Nat → Int32 → Int64 → Int64 → Int32 → Mm → Prop
  | 0 => fun _ _ _ _ _ => False
  | n + 1 => fun v4 v5 v7 v9 M =>
    (((M.1 0 1) ≤ v9) → (w_X12_divisor v7 v5 M (fun r13 M14 => ((¬ v4 = 0) → ((¬ r13 = 0) ∧ (post (v5 / r13) M14))) ∧ ((v4 = 0) → ((¬ r13 = 0) ∧ (post (v7 / r13) M14)))))) ∧ ((¬ (M.1 0 1) ≤ v9) → ((vp_in v9 10) ∧ ((vp_in ((5 : Int32) + v9) 10) ∧ (w_X12_meetNow_105  post  n v4 v5 (v7 + ((M.2 20 v9.toNatClampNeg) * (M.2 20 ((5 : Int32) + v9).toNatClampNeg))) (v9 + 1) M))))
def w_X12_meetNow_69  (post : Int64 → Mm → Prop)  : Nat → Int32 → Int32 → Int64 → Int32 → Mm → Prop
  | 0 => fun _ _ _ _ _ => False
  | n + 1 => fun v3 v4 v5 v7 M =>
    ((v3 ≤ v7) → (∃ n0 : Nat, w_X12_meetNow_105  post  n0 v4 v5 (0 : Int64) (0 : Int32) M)) ∧ ((¬ v3 ≤ v7) → (w_X12_turn (0 : Int32) M (fun M23 => w_X12_turn (5 : Int32) M23 (fun M26 => w_X12_meetNow_69  post  n v3 v4 (v5 * (176400 : Int64)) (v7 + 1) M26))))
def w_X12_meetNow_3  (post : Int64 → Mm → Prop)  : Nat → Int32 → Int32 → Int32 → Int32 → Int32 → Mm → Prop
  | 0 => fun _ _ _ _ _ _ => False
  | n + 1 => fun v1 v2 v3 v4 v5 M =>
    (((5 : Int32) ≤ v5) → (∃ n0 : Nat, w_X12_meetNow_69  post  n0 v3 v4 (1 : Int64) (0 : Int32) M)) ∧ ((¬ (5 : Int32) ≤ v5) → ((vp_in v1 5) ∧ (((¬ (M.1 7 v1.toNatClampNeg) = v5) → (w_X12_meetNow_31  post (w_X12_meetNow_3  post  n) v1 v2 v3 v4 v5 v5 (0 : Int64) M)) ∧ (((M.1 7 v1.toNatClampNeg) = v5) → (w_X12_meetNow_31  post (w_X12_meetNow_3  post  n) v1 v2 v3 v4 v5 v5 (1 : Int64) M)))))
def w_X12_meetNow (x1 : Int32) (x2 : Int32) (x3 : Int32) (x4 : Int32) (M : Mm) (post : Int64 → Mm → Prop) : Prop :=
  ∃ n0 : Nat, w_X12_meetNow_3  post  n0 x1 x2 x3 x4 (0 : Int32) M
theorem iw_X12_meetNow_X12 : ∀ w ∈ u_ws RX12 TX12 49, w ∈ wsX12_meetNow := by decide +kernel
theorem m_X12_meetNow_f68 : Cond.fieldLink RX12 68 "ShameYardsModel" "likely" "[J" ∈ wsX12_meetNow := by decide +kernel
theorem m_X12_meetNow_f28 : Cond.fieldLink RX12 28 "ShameYardsModel" "roomOf" "[I" ∈ wsX12_meetNow := by decide +kernel
theorem m_X12_meetNow_f150 : Cond.fieldLink RX12 150 "ShameYardsModel" "rooms" "I" ∈ wsX12_meetNow := by decide +kernel
theorem m_X12_meetNow_c265 : Jvm.Cond.constantLong RX12 265 (176400) ∈ wsX12_meetNow := by decide +kernel
set_option maxHeartbeats 4000000 in
set_option maxRecDepth 100000 in
theorem c_X12_meetNow (l : Launch) (D : va_G) (cy : Nat → ClassId) (ad : Nat → Nat) (A : Nat → Prop) (G : Gd A ad nsM)   (x1 : Int32) (x2 : Int32) (x3 : Int32) (x4 : Int32) (M : Mm) (post : Int64 → Mm → Prop) (h : w_X12_meetNow x1 x2 x3 x4 M post) : CL l yX12_meetNow wsX12_meetNow (rmL 5) D (tysC cy) A ad nsM (ceM ad cy) ExM [.ref (ad 0), .int x1, .int x2, .int x3, .int x4] M post := by
  refine Met_V (cc := cX12_meetNow) (maxL := 11) (ret := (some .long)) (by decide) rfl G Lo_M ExM_ok (Nat.le_of_ble_eq_true rfl) rfl ?_
  intro p e s m args below meth c C hr hlk
  have C : Cx p s m args c cX12_meetNow 11 RX12 wsX12_meetNow D (tysC cy) A ad nsM (ceM ad cy) ExM := C
  have L31 : ∀ (k3 : Int32 → Int32 → Int32 → Int32 → Int32 → Mm → Prop) (hk3 : ∀ (v1 : Int32) (v2 : Int32) (v3 : Int32) (v4 : Int32) (v5 : Int32) (M : Mm), k3 v1 v2 v3 v4 v5 M → V p l e (rmL 5) s m args below meth c (MQ below (va_Ql post (Wd D (tysC cy) ad nsM (ceM ad cy) ExM) A) args s 0 0 A) D A ad nsM (ceM ad cy) 11 M [(0, .ref (ad 0)), (1, .int v1), (2, .int v2), (3, .int v3), (4, .int v4), (5, .int v5)] 3 []) (v1 : Int32) (v2 : Int32) (v3 : Int32) (v4 : Int32) (v5 : Int32) (s1 : Int32) (s2 : Int64) (M : Mm), w_X12_meetNow_31  post k3 v1 v2 v3 v4 v5 s1 s2 M → V p l e (rmL 5) s m args below meth c (MQ below (va_Ql post (Wd D (tysC cy) ad nsM (ceM ad cy) ExM) A) args s 0 0 A) D A ad nsM (ceM ad cy) 11 M [(0, .ref (ad 0)), (1, .int v1), (2, .int v2), (3, .int v3), (4, .int v4), (5, .int v5)] 31 [.long s2, .int s1, .ref (ad 20)] := by
    intro k3 hk3 v1 v2 v3 v4 v5 s1 s2 M h 
    unfold w_X12_meetNow_31 at h
    have g1 := h.1
    have h := h.2
    refine V_last (t0 := 2) (L := 10) C (nsM_mem (by decide)) (fun _ => rfl) rfl g1 dX12_meetNow_31 (fun M2 e3 => ?_)
    have h := h M2 e3
    refine V_aload_n C 0 dX12_meetNow_32 rfl ?_
    refine V_get (k0 := 30) (Cn := RX12) (T := TX12) (N := 49) C (nsM_mem (by decide)) rfl iw_X12_meetNow_X12 (by decide) rfl m_X12_meetNow_f68 (ceM_0 _) rfl dX12_meetNow_33 ?_
    refine V_iconst (v := (5 : Int32)) C dX12_meetNow_36 (by decide) ?_
    refine V_iload C 5 dX12_meetNow_37 rfl ?_
    refine V_iadd C dX12_meetNow_39 ?_
    refine V_aload_n C 0 dX12_meetNow_40 rfl ?_
    refine V_get (k0 := 10) (Cn := RX12) (T := TX12) (N := 49) C (nsM_mem (by decide)) rfl iw_X12_meetNow_X12 (by decide) rfl m_X12_meetNow_f28 (ceM_0 _) rfl dX12_meetNow_41 ?_
    refine V_iload_n C 2 dX12_meetNow_44 rfl ?_
    have g4 := h.1
    have h := h.2
    refine V_iald (t0 := 1) (L := 5) C (nsM_mem (by decide)) (fun _ => rfl) rfl g4 dX12_meetNow_45 ?_
    refine V_iload C 5 dX12_meetNow_46 rfl ?_
    refine V_icmp_ne C 55 dX12_meetNow_48 (by decide) (fun q5 => ?_) (fun q5 => ?_)
    · have h := h.1 q5
      refine V_lconst (v := (0 : Int64)) C dX12_meetNow_55 (by decide) ?_
      have g6 := h.1
      have h := h.2
      refine V_last (t0 := 2) (L := 10) C (nsM_mem (by decide)) (fun _ => rfl) rfl g6 dX12_meetNow_56 (fun M7 e8 => ?_)
      have h := h M7 e8
      refine V_iinc (v := (v5 + 1)) (lv' := [(5, .int (v5 + 1)), (0, .ref (ad 0)), (1, .int v1), (2, .int v2), (3, .int v3), (4, .int v4)]) C 5 dX12_meetNow_57 rfl rfl (by decide) rfl ?_
      refine V_goto C 3 dX12_meetNow_60 (by decide) ?_
      refine V_drop (lv' := [(0, .ref (ad 0)), (1, .int v1), (2, .int v2), (3, .int v3), (4, .int v4), (5, .int (v5 + 1))]) [1, 2, 3, 4, 5, 0] rfl ?_
      exact hk3 v1 v2 v3 v4 (v5 + 1) M7 h 
    · have h := h.2 q5
      refine V_lconst (v := (1 : Int64)) C dX12_meetNow_51 (by decide) ?_
      refine V_goto C 56 dX12_meetNow_52 (by decide) ?_
      have g9 := h.1
      have h := h.2
      refine V_last (t0 := 2) (L := 10) C (nsM_mem (by decide)) (fun _ => rfl) rfl g9 dX12_meetNow_56 (fun M10 e11 => ?_)
      have h := h M10 e11
      refine V_iinc (v := (v5 + 1)) (lv' := [(5, .int (v5 + 1)), (0, .ref (ad 0)), (1, .int v1), (2, .int v2), (3, .int v3), (4, .int v4)]) C 5 dX12_meetNow_57 rfl rfl (by decide) rfl ?_
      refine V_goto C 3 dX12_meetNow_60 (by decide) ?_
      refine V_drop (lv' := [(0, .ref (ad 0)), (1, .int v1), (2, .int v2), (3, .int v3), (4, .int v4), (5, .int (v5 + 1))]) [1, 2, 3, 4, 5, 0] rfl ?_
      exact hk3 v1 v2 v3 v4 (v5 + 1) M10 h 
  have L105 : ∀  (n : Nat) (v4 : Int32) (v5 : Int64) (v7 : Int64) (v9 : Int32) (M : Mm), w_X12_meetNow_105  post  n v4 v5 v7 v9 M → V p l e (rmL 5) s m args below meth c (MQ below (va_Ql post (Wd D (tysC cy) ad nsM (ceM ad cy) ExM) A) args s 0 0 A) D A ad nsM (ceM ad cy) 11 M [(0, .ref (ad 0)), (4, .int v4), (5, .long v5), (7, .long v7), (9, .int v9)] 105 [] := by
    intro  n
    induction n with
    | zero => intro v4 v5 v7 v9 M h; exact h.elim
    | succ n ih =>
    intro v4 v5 v7 v9 M h 
    unfold w_X12_meetNow_105 at h
    refine V_iload C 4 dX12_meetNow_105 rfl ?_
    refine V_aload_n C 0 dX12_meetNow_107 rfl ?_
    refine V_get (k0 := 1) (Cn := RX12) (T := TX12) (N := 49) C (nsM_mem (by decide)) rfl iw_X12_meetNow_X12 (by decide) rfl m_X12_meetNow_f150 (ceM_0 _) rfl dX12_meetNow_108 ?_
    refine V_icmp_ge C 142 dX12_meetNow_111 (by decide) (fun q12 => ?_) (fun q12 => ?_)
    · have h := h.1 q12
      refine V_lload C 3 dX12_meetNow_142 rfl ?_
      refine V_lload C 2 dX12_meetNow_144 rfl ?_
      refine V_callSl (rest := []) C (c_X12_divisor l D cy ad A G v7 v5 M _ h) (va_cwS 2 C.1.2.2.2.2 gX12_meetNow_X12_divisor rfl rfl rfl (by decide +kernel) ⟨by decide, by decide⟩) rfl rfl (Nat.le_of_ble_eq_true rfl) dX12_meetNow_146 (fun r13 M14 h => ?_)
      refine V_lstore (lv' := [(9, .long r13), (0, .ref (ad 0)), (4, .int v4), (5, .long v5), (7, .long v7)]) C dX12_meetNow_149 (by decide) rfl ?_
      refine V_iload C 2 dX12_meetNow_151 rfl ?_
      refine V_if_ne C 164 dX12_meetNow_153 (by decide) (fun q16 => ?_) (fun q16 => ?_)
      · have h := h.1 q16
        refine V_lload C 3 dX12_meetNow_164 rfl ?_
        refine V_lload C 0 dX12_meetNow_166 rfl ?_
        have g17 := h.1
        have h := h.2
        refine V_ldiv C dX12_meetNow_168 g17 ?_
        exact V_lret C hr hlk dX12_meetNow_169 h
      · have h := h.2 q16
        refine V_lload C 4 dX12_meetNow_156 rfl ?_
        refine V_lload C 0 dX12_meetNow_158 rfl ?_
        have g18 := h.1
        have h := h.2
        refine V_ldiv C dX12_meetNow_160 g18 ?_
        refine V_goto C 169 dX12_meetNow_161 (by decide) ?_
        exact V_lret C hr hlk dX12_meetNow_169 h
    · have h := h.2 q12
      refine V_lload C 3 dX12_meetNow_114 rfl ?_
      refine V_aload_n C 0 dX12_meetNow_116 rfl ?_
      refine V_get (k0 := 30) (Cn := RX12) (T := TX12) (N := 49) C (nsM_mem (by decide)) rfl iw_X12_meetNow_X12 (by decide) rfl m_X12_meetNow_f68 (ceM_0 _) rfl dX12_meetNow_117 ?_
      refine V_iload C 4 dX12_meetNow_120 rfl ?_
      have g19 := h.1
      have h := h.2
      refine V_lald (t0 := 2) (L := 10) C (nsM_mem (by decide)) (fun _ => rfl) rfl g19 dX12_meetNow_122 ?_
      refine V_aload_n C 0 dX12_meetNow_123 rfl ?_
      refine V_get (k0 := 30) (Cn := RX12) (T := TX12) (N := 49) C (nsM_mem (by decide)) rfl iw_X12_meetNow_X12 (by decide) rfl m_X12_meetNow_f68 (ceM_0 _) rfl dX12_meetNow_124 ?_
      refine V_iconst (v := (5 : Int32)) C dX12_meetNow_127 (by decide) ?_
      refine V_iload C 4 dX12_meetNow_128 rfl ?_
      refine V_iadd C dX12_meetNow_130 ?_
      have g20 := h.1
      have h := h.2
      refine V_lald (t0 := 2) (L := 10) C (nsM_mem (by decide)) (fun _ => rfl) rfl g20 dX12_meetNow_131 ?_
      refine V_lmul C dX12_meetNow_132 ?_
      refine V_ladd C dX12_meetNow_133 ?_
      refine V_lstore (lv' := [(7, .long (v7 + ((M.2 20 v9.toNatClampNeg) * (M.2 20 ((5 : Int32) + v9).toNatClampNeg)))), (0, .ref (ad 0)), (4, .int v4), (5, .long v5), (9, .int v9)]) C dX12_meetNow_134 (by decide) rfl ?_
      refine V_iinc (v := (v9 + 1)) (lv' := [(9, .int (v9 + 1)), (7, .long (v7 + ((M.2 20 v9.toNatClampNeg) * (M.2 20 ((5 : Int32) + v9).toNatClampNeg)))), (0, .ref (ad 0)), (4, .int v4), (5, .long v5)]) C 4 dX12_meetNow_136 rfl rfl (by decide) rfl ?_
      refine V_goto C 105 dX12_meetNow_139 (by decide) ?_
      refine V_drop (lv' := [(0, .ref (ad 0)), (4, .int v4), (5, .long v5), (7, .long (v7 + ((M.2 20 v9.toNatClampNeg) * (M.2 20 ((5 : Int32) + v9).toNatClampNeg)))), (9, .int (v9 + 1))]) [2, 3, 4, 1, 0] rfl ?_
      exact ih v4 v5 (v7 + ((M.2 20 v9.toNatClampNeg) * (M.2 20 ((5 : Int32) + v9).toNatClampNeg))) (v9 + 1) M h 
  have L69 : ∀  (n : Nat) (v3 : Int32) (v4 : Int32) (v5 : Int64) (v7 : Int32) (M : Mm), w_X12_meetNow_69  post  n v3 v4 v5 v7 M → V p l e (rmL 5) s m args below meth c (MQ below (va_Ql post (Wd D (tysC cy) ad nsM (ceM ad cy) ExM) A) args s 0 0 A) D A ad nsM (ceM ad cy) 11 M [(0, .ref (ad 0)), (3, .int v3), (4, .int v4), (5, .long v5), (7, .int v7)] 69 [] := by
    intro  n
    induction n with
    | zero => intro v3 v4 v5 v7 M h; exact h.elim
    | succ n ih =>
    intro v3 v4 v5 v7 M h 
    unfold w_X12_meetNow_69 at h
    refine V_iload C 4 dX12_meetNow_69 rfl ?_
    refine V_iload_n C 1 dX12_meetNow_71 rfl ?_
    refine V_icmp_ge C 99 dX12_meetNow_72 (by decide) (fun q21 => ?_) (fun q21 => ?_)
    · have h := h.1 q21
      refine V_lconst (v := (0 : Int64)) C dX12_meetNow_99 (by decide) ?_
      refine V_lstore (lv' := [(7, .long (0 : Int64)), (0, .ref (ad 0)), (3, .int v3), (4, .int v4), (5, .long v5)]) C dX12_meetNow_100 (by decide) rfl ?_
      refine V_iconst (v := (0 : Int32)) C dX12_meetNow_102 (by decide) ?_
      refine V_istore (lv' := [(9, .int (0 : Int32)), (7, .long (0 : Int64)), (0, .ref (ad 0)), (3, .int v3), (4, .int v4), (5, .long v5)]) C dX12_meetNow_103 (by decide) rfl ?_
      refine V_drop (lv' := [(0, .ref (ad 0)), (4, .int v4), (5, .long v5), (7, .long (0 : Int64)), (9, .int (0 : Int32))]) [2, 4, 5, 1, 0] rfl ?_
      obtain ⟨n0, h⟩ := h
      exact L105  n0 v4 v5 (0 : Int64) (0 : Int32) M h 
    · have h := h.2 q21
      refine V_aload_n C 0 dX12_meetNow_75 rfl ?_
      refine V_iconst (v := (0 : Int32)) C dX12_meetNow_76 (by decide) ?_
      refine V_callVv (q := (RX12, TX12, 49)) (rest := []) C (nsM_mem (by decide)) (ceM_0 _) rfl (c_X12_turn l D cy ad A G (0 : Int32) M _ h) (cwV 1 C.1.2.2.2.2 gX12_meetNow_X12_turn rfl rfl rfl (by decide +kernel) ⟨by decide, by decide⟩) rfl rfl (Nat.le_of_ble_eq_true rfl) dX12_meetNow_77 (fun M23 h => ?_)
      refine V_aload_n C 0 dX12_meetNow_80 rfl ?_
      refine V_iconst (v := (5 : Int32)) C dX12_meetNow_81 (by decide) ?_
      refine V_callVv (q := (RX12, TX12, 49)) (rest := []) C (nsM_mem (by decide)) (ceM_0 _) rfl (c_X12_turn l D cy ad A G (5 : Int32) M23 _ h) (cwV 1 C.1.2.2.2.2 gX12_meetNow_X12_turn rfl rfl rfl (by decide +kernel) ⟨by decide, by decide⟩) rfl rfl (Nat.le_of_ble_eq_true rfl) dX12_meetNow_82 (fun M26 h => ?_)
      refine V_lload C 3 dX12_meetNow_85 rfl ?_
      refine V_ldc2 (v := (176400 : Int64)) C dX12_meetNow_87 m_X12_meetNow_c265 ?_
      refine V_lmul C dX12_meetNow_90 ?_
      refine V_lstore (lv' := [(5, .long (v5 * (176400 : Int64))), (0, .ref (ad 0)), (3, .int v3), (4, .int v4), (7, .int v7)]) C dX12_meetNow_91 (by decide) rfl ?_
      refine V_iinc (v := (v7 + 1)) (lv' := [(7, .int (v7 + 1)), (5, .long (v5 * (176400 : Int64))), (0, .ref (ad 0)), (3, .int v3), (4, .int v4)]) C 4 dX12_meetNow_93 rfl rfl (by decide) rfl ?_
      refine V_goto C 69 dX12_meetNow_96 (by decide) ?_
      refine V_drop (lv' := [(0, .ref (ad 0)), (3, .int v3), (4, .int v4), (5, .long (v5 * (176400 : Int64))), (7, .int (v7 + 1))]) [2, 3, 4, 1, 0] rfl ?_
      exact ih v3 v4 (v5 * (176400 : Int64)) (v7 + 1) M26 h 
  have L3 : ∀  (n : Nat) (v1 : Int32) (v2 : Int32) (v3 : Int32) (v4 : Int32) (v5 : Int32) (M : Mm), w_X12_meetNow_3  post  n v1 v2 v3 v4 v5 M → V p l e (rmL 5) s m args below meth c (MQ below (va_Ql post (Wd D (tysC cy) ad nsM (ceM ad cy) ExM) A) args s 0 0 A) D A ad nsM (ceM ad cy) 11 M [(0, .ref (ad 0)), (1, .int v1), (2, .int v2), (3, .int v3), (4, .int v4), (5, .int v5)] 3 [] := by
    intro  n
    induction n with
    | zero => intro v1 v2 v3 v4 v5 M h; exact h.elim
    | succ n ih =>
    intro v1 v2 v3 v4 v5 M h 
    unfold w_X12_meetNow_3 at h
    refine V_iload C 5 dX12_meetNow_3 rfl ?_
    refine V_iconst (v := (5 : Int32)) C dX12_meetNow_5 (by decide) ?_
    refine V_icmp_ge C 63 dX12_meetNow_6 (by decide) (fun q28 => ?_) (fun q28 => ?_)
    · have h := h.1 q28
      refine V_lconst (v := (1 : Int64)) C dX12_meetNow_63 (by decide) ?_
      refine V_lstore (lv' := [(5, .long (1 : Int64)), (0, .ref (ad 0)), (1, .int v1), (2, .int v2), (3, .int v3), (4, .int v4)]) C dX12_meetNow_64 (by decide) rfl ?_
      refine V_iconst (v := (0 : Int32)) C dX12_meetNow_66 (by decide) ?_
      refine V_istore (lv' := [(7, .int (0 : Int32)), (5, .long (1 : Int64)), (0, .ref (ad 0)), (1, .int v1), (2, .int v2), (3, .int v3), (4, .int v4)]) C dX12_meetNow_67 (by decide) rfl ?_
      refine V_drop (lv' := [(0, .ref (ad 0)), (3, .int v3), (4, .int v4), (5, .long (1 : Int64)), (7, .int (0 : Int32))]) [2, 5, 6, 1, 0] rfl ?_
      obtain ⟨n0, h⟩ := h
      exact L69  n0 v3 v4 (1 : Int64) (0 : Int32) M h 
    · have h := h.2 q28
      refine V_aload_n C 0 dX12_meetNow_9 rfl ?_
      refine V_get (k0 := 30) (Cn := RX12) (T := TX12) (N := 49) C (nsM_mem (by decide)) rfl iw_X12_meetNow_X12 (by decide) rfl m_X12_meetNow_f68 (ceM_0 _) rfl dX12_meetNow_10 ?_
      refine V_iload C 5 dX12_meetNow_13 rfl ?_
      refine V_aload_n C 0 dX12_meetNow_15 rfl ?_
      refine V_get (k0 := 10) (Cn := RX12) (T := TX12) (N := 49) C (nsM_mem (by decide)) rfl iw_X12_meetNow_X12 (by decide) rfl m_X12_meetNow_f28 (ceM_0 _) rfl dX12_meetNow_16 ?_
      refine V_iload_n C 1 dX12_meetNow_19 rfl ?_
      have g29 := h.1
      have h := h.2
      refine V_iald (t0 := 1) (L := 5) C (nsM_mem (by decide)) (fun _ => rfl) rfl g29 dX12_meetNow_20 ?_
      refine V_iload C 5 dX12_meetNow_21 rfl ?_
      refine V_icmp_ne C 30 dX12_meetNow_23 (by decide) (fun q30 => ?_) (fun q30 => ?_)
      · have h := h.1 q30
        refine V_lconst (v := (0 : Int64)) C dX12_meetNow_30 (by decide) ?_
        refine V_drop (lv' := [(0, .ref (ad 0)), (1, .int v1), (2, .int v2), (3, .int v3), (4, .int v4), (5, .int v5)]) [0, 1, 2, 3, 4, 5] rfl ?_
        exact L31 (w_X12_meetNow_3  post  n) ih v1 v2 v3 v4 v5 v5 (0 : Int64) M h 
      · have h := h.2 q30
        refine V_lconst (v := (1 : Int64)) C dX12_meetNow_26 (by decide) ?_
        refine V_goto C 31 dX12_meetNow_27 (by decide) ?_
        refine V_drop (lv' := [(0, .ref (ad 0)), (1, .int v1), (2, .int v2), (3, .int v3), (4, .int v4), (5, .int v5)]) [0, 1, 2, 3, 4, 5] rfl ?_
        exact L31 (w_X12_meetNow_3  post  n) ih v1 v2 v3 v4 v5 v5 (1 : Int64) M h 
  unfold w_X12_meetNow at h
  refine V_iconst (v := (0 : Int32)) C dX12_meetNow_0 (by decide) ?_
  refine V_istore (lv' := [(5, .int (0 : Int32)), (0, .ref (ad 0)), (1, .int x1), (2, .int x2), (3, .int x3), (4, .int x4)]) C dX12_meetNow_1 (by decide) rfl ?_
  refine V_drop (lv' := [(0, .ref (ad 0)), (1, .int x1), (2, .int x2), (3, .int x3), (4, .int x4), (5, .int (0 : Int32))]) [1, 2, 3, 4, 5, 0] rfl ?_
  obtain ⟨n0, h⟩ := h
  exact L3  n0 x1 x2 x3 x4 (0 : Int32) M h 
def w_X12_meet (x1 : Int32) (x2 : Int32) (x3 : Int32) (x4 : Int32) (M : Mm) (post : Int64 → Mm → Prop) : Prop :=
  w_X12_isPerson x1 M (fun r1 M2 => ((r1 = 0) → (post (-101 : Int64) M2)) ∧ ((¬ r1 = 0) → (w_X12_isPerson x2 M2 (fun r5 M6 => ((r5 = 0) → (post (-101 : Int64) M6)) ∧ ((¬ r5 = 0) → (((¬ x1 = x2) → (w_X12_within x3 (1 : Int32) (3 : Int32) M6 (fun r10 M11 => ((r10 = 0) → (post (-102 : Int64) M11)) ∧ ((¬ r10 = 0) → (w_X12_within x4 (0 : Int32) (1 : Int32) M11 (fun r14 M15 => ((r14 = 0) → (post (-102 : Int64) M15)) ∧ ((¬ r14 = 0) → (w_X12_meetNow x1 x2 x3 x4 M15 (fun r18 M19 => post r18 M19))))))))) ∧ ((x1 = x2) → (post (-101 : Int64) M6))))))))
theorem m_X12_meet_c271 : Jvm.Cond.constantLong RX12 271 (-101) ∈ wsX12_meet := by decide +kernel
theorem m_X12_meet_c277 : Jvm.Cond.constantLong RX12 277 (-102) ∈ wsX12_meet := by decide +kernel
set_option maxHeartbeats 4000000 in
set_option maxRecDepth 100000 in
theorem c_X12_meet (l : Launch) (D : va_G) (cy : Nat → ClassId) (ad : Nat → Nat) (A : Nat → Prop) (G : Gd A ad nsM)   (x1 : Int32) (x2 : Int32) (x3 : Int32) (x4 : Int32) (M : Mm) (post : Int64 → Mm → Prop) (h : w_X12_meet x1 x2 x3 x4 M post) : CL l yX12_meet wsX12_meet (rmL 6) D (tysC cy) A ad nsM (ceM ad cy) ExM [.ref (ad 0), .int x1, .int x2, .int x3, .int x4] M post := by
  refine Met_V (cc := cX12_meet) (maxL := 5) (ret := (some .long)) (by decide) rfl G Lo_M ExM_ok (Nat.le_of_ble_eq_true rfl) rfl ?_
  intro p e s m args below meth c C hr hlk
  have C : Cx p s m args c cX12_meet 5 RX12 wsX12_meet D (tysC cy) A ad nsM (ceM ad cy) ExM := C
  unfold w_X12_meet at h
  refine V_aload_n C 0 dX12_meet_0 rfl ?_
  refine V_iload_n C 1 dX12_meet_1 rfl ?_
  refine V_callVi (q := (RX12, TX12, 49)) (rest := []) C (nsM_mem (by decide)) (ceM_0 _) rfl (c_X12_isPerson l D cy ad A G x1 M _ h) (cwV 1 C.1.2.2.2.2 gX12_meet_X12_isPerson rfl rfl rfl (by decide +kernel) ⟨by decide, by decide⟩) rfl rfl (Nat.le_of_ble_eq_true rfl) dX12_meet_2 (fun r1 M2 h => ?_)
  obtain ⟨z3, h⟩ := h
  refine V_if_eq C 21 dX12_meet_5 (by decide) (fun q4 => ?_) (fun q4 => ?_)
  · have h := h.1 q4
    refine V_ldc2 (v := (-101 : Int64)) C dX12_meet_21 m_X12_meet_c271 ?_
    exact V_lret C hr hlk dX12_meet_24 h
  · have h := h.2 q4
    refine V_aload_n C 0 dX12_meet_8 rfl ?_
    refine V_iload_n C 2 dX12_meet_9 rfl ?_
    refine V_callVi (q := (RX12, TX12, 49)) (rest := []) C (nsM_mem (by decide)) (ceM_0 _) rfl (c_X12_isPerson l D cy ad A G x2 M2 _ h) (cwV 1 C.1.2.2.2.2 gX12_meet_X12_isPerson rfl rfl rfl (by decide +kernel) ⟨by decide, by decide⟩) rfl rfl (Nat.le_of_ble_eq_true rfl) dX12_meet_10 (fun r5 M6 h => ?_)
    obtain ⟨z7, h⟩ := h
    refine V_if_eq C 21 dX12_meet_13 (by decide) (fun q8 => ?_) (fun q8 => ?_)
    · have h := h.1 q8
      refine V_ldc2 (v := (-101 : Int64)) C dX12_meet_21 m_X12_meet_c271 ?_
      exact V_lret C hr hlk dX12_meet_24 h
    · have h := h.2 q8
      refine V_iload_n C 1 dX12_meet_16 rfl ?_
      refine V_iload_n C 2 dX12_meet_17 rfl ?_
      refine V_icmp_ne C 25 dX12_meet_18 (by decide) (fun q9 => ?_) (fun q9 => ?_)
      · have h := h.1 q9
        refine V_iload_n C 3 dX12_meet_25 rfl ?_
        refine V_iconst (v := (1 : Int32)) C dX12_meet_26 (by decide) ?_
        refine V_iconst (v := (3 : Int32)) C dX12_meet_27 (by decide) ?_
        refine V_callSi (rest := []) C (c_X12_within l D cy ad A G x3 (1 : Int32) (3 : Int32) M6 _ h) (va_cwS 3 C.1.2.2.2.2 gX12_meet_X12_within rfl rfl rfl (by decide +kernel) ⟨by decide, by decide⟩) rfl rfl (Nat.le_of_ble_eq_true rfl) dX12_meet_28 (fun r10 M11 h => ?_)
        obtain ⟨z12, h⟩ := h
        refine V_if_eq C 56 dX12_meet_31 (by decide) (fun q13 => ?_) (fun q13 => ?_)
        · have h := h.1 q13
          refine V_ldc2 (v := (-102 : Int64)) C dX12_meet_56 m_X12_meet_c277 ?_
          exact V_lret C hr hlk dX12_meet_59 h
        · have h := h.2 q13
          refine V_iload C 4 dX12_meet_34 rfl ?_
          refine V_iconst (v := (0 : Int32)) C dX12_meet_36 (by decide) ?_
          refine V_iconst (v := (1 : Int32)) C dX12_meet_37 (by decide) ?_
          refine V_callSi (rest := []) C (c_X12_within l D cy ad A G x4 (0 : Int32) (1 : Int32) M11 _ h) (va_cwS 3 C.1.2.2.2.2 gX12_meet_X12_within rfl rfl rfl (by decide +kernel) ⟨by decide, by decide⟩) rfl rfl (Nat.le_of_ble_eq_true rfl) dX12_meet_38 (fun r14 M15 h => ?_)
          obtain ⟨z16, h⟩ := h
          refine V_if_eq C 56 dX12_meet_41 (by decide) (fun q17 => ?_) (fun q17 => ?_)
          · have h := h.1 q17
            refine V_ldc2 (v := (-102 : Int64)) C dX12_meet_56 m_X12_meet_c277 ?_
            exact V_lret C hr hlk dX12_meet_59 h
          · have h := h.2 q17
            refine V_aload_n C 0 dX12_meet_44 rfl ?_
            refine V_iload_n C 1 dX12_meet_45 rfl ?_
            refine V_iload_n C 2 dX12_meet_46 rfl ?_
            refine V_iload_n C 3 dX12_meet_47 rfl ?_
            refine V_iload C 4 dX12_meet_48 rfl ?_
            refine V_callVl (q := (RX12, TX12, 49)) (rest := []) C (nsM_mem (by decide)) (ceM_0 _) rfl (c_X12_meetNow l D cy ad A G x1 x2 x3 x4 M15 _ h) (cwV 4 C.1.2.2.2.2 gX12_meet_X12_meetNow rfl rfl rfl (by decide +kernel) ⟨by decide, by decide⟩) rfl rfl (Nat.le_of_ble_eq_true rfl) dX12_meet_50 (fun r18 M19 h => ?_)
            refine V_goto C 59 dX12_meet_53 (by decide) ?_
            exact V_lret C hr hlk dX12_meet_59 h
      · have h := h.2 q9
        refine V_ldc2 (v := (-101 : Int64)) C dX12_meet_21 m_X12_meet_c271 ?_
        exact V_lret C hr hlk dX12_meet_24 h
def w_X12_see (x1 : Int32) (x2 : Int32) (x3 : Int32) (x4 : Int32) (M : Mm) (post : Int32 → Mm → Prop) : Prop :=
  w_X12_isPerson x1 M (fun r1 M2 => ((r1 = 0) → (post (-101 : Int32) M2)) ∧ ((¬ r1 = 0) → (w_X12_isPassage x2 M2 (fun r5 M6 => ((r5 = 0) → (post (-101 : Int32) M6)) ∧ ((¬ r5 = 0) → (w_X12_isWith x1 x3 M6 (fun r9 M10 => ((¬ r9 = 0) → (w_X12_within x4 (0 : Int32) (120 : Int32) M10 (fun r13 M14 => ((¬ r13 = 0) → (((¬ (M14.1 0 14) = (6 : Int32)) → ((vp_in (M14.1 0 14) 6) ∧ (∀ M19 : Mm, M19 = wI M14 9 (upd (M14.1 9) (M14.1 0 14).toNatClampNeg x1) → ((vp_in (M19.1 0 14) 6) ∧ (∀ M22 : Mm, M22 = wI M19 10 (upd (M19.1 10) (M19.1 0 14).toNatClampNeg x2) → ((vp_in (M22.1 0 14) 6) ∧ (∀ M25 : Mm, M25 = wI M22 11 (upd (M22.1 11) (M22.1 0 14).toNatClampNeg x3) → ((vp_in (M25.1 0 14) 6) ∧ (∀ M28 : Mm, M28 = wI M25 12 (upd (M25.1 12) (M25.1 0 14).toNatClampNeg x4) → (∀ M30 : Mm, M30 = wI M28 0 (upd (M28.1 0) 14 ((M28.1 0 14) + (1 : Int32))) → (post (M30.1 0 14) M30))))))))))) ∧ (((M14.1 0 14) = (6 : Int32)) → (post (-104 : Int32) M14)))) ∧ ((r13 = 0) → (post (-102 : Int32) M14))))) ∧ ((r9 = 0) → (post (-101 : Int32) M10)))))))))
theorem iw_X12_see_X12 : ∀ w ∈ u_ws RX12 TX12 49, w ∈ wsX12_see := by decide +kernel
theorem m_X12_see_f165 : Cond.fieldLink RX12 165 "ShameYardsModel" "seen" "I" ∈ wsX12_see := by decide +kernel
theorem m_X12_see_f34 : Cond.fieldLink RX12 34 "ShameYardsModel" "seenPerson" "[I" ∈ wsX12_see := by decide +kernel
theorem m_X12_see_f37 : Cond.fieldLink RX12 37 "ShameYardsModel" "seenPassage" "[I" ∈ wsX12_see := by decide +kernel
theorem m_X12_see_f40 : Cond.fieldLink RX12 40 "ShameYardsModel" "seenWith" "[I" ∈ wsX12_see := by decide +kernel
theorem m_X12_see_f43 : Cond.fieldLink RX12 43 "ShameYardsModel" "seenSteps" "[I" ∈ wsX12_see := by decide +kernel
set_option maxHeartbeats 4000000 in
set_option maxRecDepth 100000 in
theorem c_X12_see (l : Launch) (D : va_G) (cy : Nat → ClassId) (ad : Nat → Nat) (A : Nat → Prop) (G : Gd A ad nsM)   (x1 : Int32) (x2 : Int32) (x3 : Int32) (x4 : Int32) (M : Mm) (post : Int32 → Mm → Prop) (h : w_X12_see x1 x2 x3 x4 M post) : CI l yX12_see wsX12_see (rmL 5) D (tysC cy) A ad nsM (ceM ad cy) ExM [.ref (ad 0), .int x1, .int x2, .int x3, .int x4] M post := by
  refine Met_V (cc := cX12_see) (maxL := 5) (ret := (some .int)) (by decide) rfl G Lo_M ExM_ok (Nat.le_of_ble_eq_true rfl) rfl ?_
  intro p e s m args below meth c C hr hlk
  have C : Cx p s m args c cX12_see 5 RX12 wsX12_see D (tysC cy) A ad nsM (ceM ad cy) ExM := C
  unfold w_X12_see at h
  refine V_aload_n C 0 dX12_see_0 rfl ?_
  refine V_iload_n C 1 dX12_see_1 rfl ?_
  refine V_callVi (q := (RX12, TX12, 49)) (rest := []) C (nsM_mem (by decide)) (ceM_0 _) rfl (c_X12_isPerson l D cy ad A G x1 M _ h) (cwV 1 C.1.2.2.2.2 gX12_see_X12_isPerson rfl rfl rfl (by decide +kernel) ⟨by decide, by decide⟩) rfl rfl (Nat.le_of_ble_eq_true rfl) dX12_see_2 (fun r1 M2 h => ?_)
  obtain ⟨z3, h⟩ := h
  refine V_if_eq C 25 dX12_see_5 (by decide) (fun q4 => ?_) (fun q4 => ?_)
  · have h := h.1 q4
    refine V_bipush (v := (-101 : Int32)) C dX12_see_25 (by decide) ?_
    exact V_iret C hr hlk dX12_see_27 h
  · have h := h.2 q4
    refine V_aload_n C 0 dX12_see_8 rfl ?_
    refine V_iload_n C 2 dX12_see_9 rfl ?_
    refine V_callVi (q := (RX12, TX12, 49)) (rest := []) C (nsM_mem (by decide)) (ceM_0 _) rfl (c_X12_isPassage l D cy ad A G x2 M2 _ h) (cwV 1 C.1.2.2.2.2 gX12_see_X12_isPassage rfl rfl rfl (by decide +kernel) ⟨by decide, by decide⟩) rfl rfl (Nat.le_of_ble_eq_true rfl) dX12_see_10 (fun r5 M6 h => ?_)
    obtain ⟨z7, h⟩ := h
    refine V_if_eq C 25 dX12_see_13 (by decide) (fun q8 => ?_) (fun q8 => ?_)
    · have h := h.1 q8
      refine V_bipush (v := (-101 : Int32)) C dX12_see_25 (by decide) ?_
      exact V_iret C hr hlk dX12_see_27 h
    · have h := h.2 q8
      refine V_aload_n C 0 dX12_see_16 rfl ?_
      refine V_iload_n C 1 dX12_see_17 rfl ?_
      refine V_iload_n C 3 dX12_see_18 rfl ?_
      refine V_callVi (q := (RX12, TX12, 49)) (rest := []) C (nsM_mem (by decide)) (ceM_0 _) rfl (c_X12_isWith l D cy ad A G x1 x3 M6 _ h) (cwV 2 C.1.2.2.2.2 gX12_see_X12_isWith rfl rfl rfl (by decide +kernel) ⟨by decide, by decide⟩) rfl rfl (Nat.le_of_ble_eq_true rfl) dX12_see_19 (fun r9 M10 h => ?_)
      obtain ⟨z11, h⟩ := h
      refine V_if_ne C 28 dX12_see_22 (by decide) (fun q12 => ?_) (fun q12 => ?_)
      · have h := h.1 q12
        refine V_iload C 4 dX12_see_28 rfl ?_
        refine V_iconst (v := (0 : Int32)) C dX12_see_30 (by decide) ?_
        refine V_bipush (v := (120 : Int32)) C dX12_see_31 (by decide) ?_
        refine V_callSi (rest := []) C (c_X12_within l D cy ad A G x4 (0 : Int32) (120 : Int32) M10 _ h) (va_cwS 3 C.1.2.2.2.2 gX12_see_X12_within rfl rfl rfl (by decide +kernel) ⟨by decide, by decide⟩) rfl rfl (Nat.le_of_ble_eq_true rfl) dX12_see_33 (fun r13 M14 h => ?_)
        obtain ⟨z15, h⟩ := h
        refine V_if_ne C 42 dX12_see_36 (by decide) (fun q16 => ?_) (fun q16 => ?_)
        · have h := h.1 q16
          refine V_aload_n C 0 dX12_see_42 rfl ?_
          refine V_get (k0 := 14) (Cn := RX12) (T := TX12) (N := 49) C (nsM_mem (by decide)) rfl iw_X12_see_X12 (by decide) rfl m_X12_see_f165 (ceM_0 _) rfl dX12_see_43 ?_
          refine V_bipush (v := (6 : Int32)) C dX12_see_46 (by decide) ?_
          refine V_icmp_ne C 54 dX12_see_48 (by decide) (fun q17 => ?_) (fun q17 => ?_)
          · have h := h.1 q17
            refine V_aload_n C 0 dX12_see_54 rfl ?_
            refine V_get (k0 := 15) (Cn := RX12) (T := TX12) (N := 49) C (nsM_mem (by decide)) rfl iw_X12_see_X12 (by decide) rfl m_X12_see_f34 (ceM_0 _) rfl dX12_see_55 ?_
            refine V_aload_n C 0 dX12_see_58 rfl ?_
            refine V_get (k0 := 14) (Cn := RX12) (T := TX12) (N := 49) C (nsM_mem (by decide)) rfl iw_X12_see_X12 (by decide) rfl m_X12_see_f165 (ceM_0 _) rfl dX12_see_59 ?_
            refine V_iload_n C 1 dX12_see_62 rfl ?_
            have g18 := h.1
            have h := h.2
            refine V_iast (t0 := 1) (L := 6) C (nsM_mem (by decide)) (fun _ => rfl) rfl g18 dX12_see_63 (fun M19 e20 => ?_)
            have h := h M19 e20
            refine V_aload_n C 0 dX12_see_64 rfl ?_
            refine V_get (k0 := 16) (Cn := RX12) (T := TX12) (N := 49) C (nsM_mem (by decide)) rfl iw_X12_see_X12 (by decide) rfl m_X12_see_f37 (ceM_0 _) rfl dX12_see_65 ?_
            refine V_aload_n C 0 dX12_see_68 rfl ?_
            refine V_get (k0 := 14) (Cn := RX12) (T := TX12) (N := 49) C (nsM_mem (by decide)) rfl iw_X12_see_X12 (by decide) rfl m_X12_see_f165 (ceM_0 _) rfl dX12_see_69 ?_
            refine V_iload_n C 2 dX12_see_72 rfl ?_
            have g21 := h.1
            have h := h.2
            refine V_iast (t0 := 1) (L := 6) C (nsM_mem (by decide)) (fun _ => rfl) rfl g21 dX12_see_73 (fun M22 e23 => ?_)
            have h := h M22 e23
            refine V_aload_n C 0 dX12_see_74 rfl ?_
            refine V_get (k0 := 17) (Cn := RX12) (T := TX12) (N := 49) C (nsM_mem (by decide)) rfl iw_X12_see_X12 (by decide) rfl m_X12_see_f40 (ceM_0 _) rfl dX12_see_75 ?_
            refine V_aload_n C 0 dX12_see_78 rfl ?_
            refine V_get (k0 := 14) (Cn := RX12) (T := TX12) (N := 49) C (nsM_mem (by decide)) rfl iw_X12_see_X12 (by decide) rfl m_X12_see_f165 (ceM_0 _) rfl dX12_see_79 ?_
            refine V_iload_n C 3 dX12_see_82 rfl ?_
            have g24 := h.1
            have h := h.2
            refine V_iast (t0 := 1) (L := 6) C (nsM_mem (by decide)) (fun _ => rfl) rfl g24 dX12_see_83 (fun M25 e26 => ?_)
            have h := h M25 e26
            refine V_aload_n C 0 dX12_see_84 rfl ?_
            refine V_get (k0 := 18) (Cn := RX12) (T := TX12) (N := 49) C (nsM_mem (by decide)) rfl iw_X12_see_X12 (by decide) rfl m_X12_see_f43 (ceM_0 _) rfl dX12_see_85 ?_
            refine V_aload_n C 0 dX12_see_88 rfl ?_
            refine V_get (k0 := 14) (Cn := RX12) (T := TX12) (N := 49) C (nsM_mem (by decide)) rfl iw_X12_see_X12 (by decide) rfl m_X12_see_f165 (ceM_0 _) rfl dX12_see_89 ?_
            refine V_iload C 4 dX12_see_92 rfl ?_
            have g27 := h.1
            have h := h.2
            refine V_iast (t0 := 1) (L := 6) C (nsM_mem (by decide)) (fun _ => rfl) rfl g27 dX12_see_94 (fun M28 e29 => ?_)
            have h := h M28 e29
            refine V_aload_n C 0 dX12_see_95 rfl ?_
            refine V_dup C dX12_see_96 rfl ?_
            refine V_get (k0 := 14) (Cn := RX12) (T := TX12) (N := 49) C (nsM_mem (by decide)) rfl iw_X12_see_X12 (by decide) rfl m_X12_see_f165 (ceM_0 _) rfl dX12_see_97 ?_
            refine V_iconst (v := (1 : Int32)) C dX12_see_100 (by decide) ?_
            refine V_iadd C dX12_see_101 ?_
            refine V_putI (k0 := 14) (Cn := RX12) (T := TX12) (N := 49) C (nsM_mem (by decide)) rfl iw_X12_see_X12 (by decide) rfl m_X12_see_f165 tyX12_ok nmX12 rfl (show _ = some FieldType.int by decide +kernel) rfl rfl (Nat.le_of_ble_eq_true rfl) (ceM_0 _) (stM0_14  _ _) dX12_see_102 (fun M30 e31 => ?_)
            have h := h M30 e31
            refine V_aload_n C 0 dX12_see_105 rfl ?_
            refine V_get (k0 := 14) (Cn := RX12) (T := TX12) (N := 49) C (nsM_mem (by decide)) rfl iw_X12_see_X12 (by decide) rfl m_X12_see_f165 (ceM_0 _) rfl dX12_see_106 ?_
            exact V_iret C hr hlk dX12_see_109 h
          · have h := h.2 q17
            refine V_bipush (v := (-104 : Int32)) C dX12_see_51 (by decide) ?_
            exact V_iret C hr hlk dX12_see_53 h
        · have h := h.2 q16
          refine V_bipush (v := (-102 : Int32)) C dX12_see_39 (by decide) ?_
          exact V_iret C hr hlk dX12_see_41 h
      · have h := h.2 q12
        refine V_bipush (v := (-101 : Int32)) C dX12_see_25 (by decide) ?_
        exact V_iret C hr hlk dX12_see_27 h
def w_X12_forget  (M : Mm) (post : Int32 → Mm → Prop) : Prop :=
  ∀ M1 : Mm, M1 = wI M 0 (upd (M.1 0) 14 (0 : Int32)) → (post (M.1 0 14) M1)
theorem iw_X12_forget_X12 : ∀ w ∈ u_ws RX12 TX12 49, w ∈ wsX12_forget := by decide +kernel
theorem m_X12_forget_f165 : Cond.fieldLink RX12 165 "ShameYardsModel" "seen" "I" ∈ wsX12_forget := by decide +kernel
set_option maxHeartbeats 4000000 in
set_option maxRecDepth 100000 in
theorem c_X12_forget (l : Launch) (D : va_G) (cy : Nat → ClassId) (ad : Nat → Nat) (A : Nat → Prop) (G : Gd A ad nsM)    (M : Mm) (post : Int32 → Mm → Prop) (h : w_X12_forget  M post) : CI l yX12_forget wsX12_forget (rmL 2) D (tysC cy) A ad nsM (ceM ad cy) ExM [.ref (ad 0)] M post := by
  refine Met_V (cc := cX12_forget) (maxL := 2) (ret := (some .int)) (by decide) rfl G Lo_M ExM_ok (Nat.le_of_ble_eq_true rfl) rfl ?_
  intro p e s m args below meth c C hr hlk
  have C : Cx p s m args c cX12_forget 2 RX12 wsX12_forget D (tysC cy) A ad nsM (ceM ad cy) ExM := C
  unfold w_X12_forget at h
  refine V_aload_n C 0 dX12_forget_0 rfl ?_
  refine V_get (k0 := 14) (Cn := RX12) (T := TX12) (N := 49) C (nsM_mem (by decide)) rfl iw_X12_forget_X12 (by decide) rfl m_X12_forget_f165 (ceM_0 _) rfl dX12_forget_1 ?_
  refine V_istore_n (lv' := [(1, .int (M.1 0 14)), (0, .ref (ad 0))]) C dX12_forget_4 rfl (by decide) rfl ?_
  refine V_aload_n C 1 dX12_forget_5 rfl ?_
  refine V_iconst (v := (0 : Int32)) C dX12_forget_6 (by decide) ?_
  refine V_putI (k0 := 14) (Cn := RX12) (T := TX12) (N := 49) C (nsM_mem (by decide)) rfl iw_X12_forget_X12 (by decide) rfl m_X12_forget_f165 tyX12_ok nmX12 rfl (show _ = some FieldType.int by decide +kernel) rfl rfl (Nat.le_of_ble_eq_true rfl) (ceM_0 _) (stM0_14  _ _) dX12_forget_7 (fun M1 e2 => ?_)
  have h := h M1 e2
  refine V_iload_n C 0 dX12_forget_10 rfl ?_
  exact V_iret C hr hlk dX12_forget_11 h
