def w_X8_commonDivisor_9  (post : Int64 → Mm → Prop)  : Nat → Int64 → Int64 → Int32 → Mm → Prop
  | 0 => fun _ _ _ _ => False
  | n + 1 => fun v4 v6 v8 M =>
    (((200 : Int32) ≤ v8) → (post v4 M)) ∧ ((¬ (200 : Int32) ≤ v8) → ((((lg_cmp v6 (0 : Int64)) = 0) → (post v4 M)) ∧ ((¬ (lg_cmp v6 (0 : Int64)) = 0) → ((¬ v6 = 0) ∧ (w_X8_commonDivisor_9  post  n v6 (v4 - v4 / v6 * v6) (v8 + 1) M)))))
def w_X8_commonDivisor (x1 : Int64) (x2 : Int64) (M : Mm) (post : Int64 → Mm → Prop) : Prop :=
  ∃ n0 : Nat, w_X8_commonDivisor_9  post  n0 x1 x2 (0 : Int32) M
set_option maxHeartbeats 4000000 in
set_option maxRecDepth 100000 in
theorem c_X8_commonDivisor (l : Launch) (D : va_G) (cy : Nat → ClassId) (ad : Nat → Nat) (A : Nat → Prop) (G : Gd A ad nsX)   (x1 : Int64) (x2 : Int64) (M : Mm) (post : Int64 → Mm → Prop) (h : w_X8_commonDivisor x1 x2 M post) : CL l yX8_commonDivisor wsX8_commonDivisor (rmL 2) D (tysC cy) A ad nsX (ceX ad cy) (ExX A ad) [.long x1, .long x2] M post := by
  refine Met_V (cc := cX8_commonDivisor) (maxL := 11) (ret := (some .long)) (by decide) rfl G Lo_X ExX_ok (Nat.le_of_ble_eq_true rfl) rfl ?_
  intro p e s m args below meth c C hr hlk
  have C : Cx p s m args c cX8_commonDivisor 11 RX8 wsX8_commonDivisor D (tysC cy) A ad nsX (ceX ad cy) (ExX A ad) := C
  have L9 : ∀  (n : Nat) (v4 : Int64) (v6 : Int64) (v8 : Int32) (M : Mm), w_X8_commonDivisor_9  post  n v4 v6 v8 M → V p l e (rmL 2) s m args below meth c (MQ below (va_Ql post (Wd D (tysC cy) ad nsX (ceX ad cy) (ExX A ad)) A) args s 0 0 A) D A ad nsX (ceX ad cy) 11 M [(4, .long v4), (6, .long v6), (8, .int v8)] 9 [] := by
    intro  n
    induction n with
    | zero => intro v4 v6 v8 M h; exact h.elim
    | succ n ih =>
    intro v4 v6 v8 M h 
    unfold w_X8_commonDivisor_9 at h
    refine V_iload C 2 dX8_commonDivisor_9 rfl ?_
    refine V_sipush (v := (200 : Int32)) C dX8_commonDivisor_11 (by decide) ?_
    refine V_icmp_ge C 45 dX8_commonDivisor_14 (by decide) (fun q1 => ?_) (fun q1 => ?_)
    · have h := h.1 q1
      refine V_lload C 0 dX8_commonDivisor_45 rfl ?_
      exact V_lret C hr hlk dX8_commonDivisor_47 h
    · have h := h.2 q1
      refine V_lload C 1 dX8_commonDivisor_17 rfl ?_
      refine V_lconst (v := (0 : Int64)) C dX8_commonDivisor_19 (by decide) ?_
      refine V_lcmp C dX8_commonDivisor_20 ?_
      refine V_if_eq C 45 dX8_commonDivisor_21 (by decide) (fun q2 => ?_) (fun q2 => ?_)
      · have h := h.1 q2
        refine V_lload C 0 dX8_commonDivisor_45 rfl ?_
        exact V_lret C hr hlk dX8_commonDivisor_47 h
      · have h := h.2 q2
        refine V_lload C 0 dX8_commonDivisor_24 rfl ?_
        refine V_lload C 1 dX8_commonDivisor_26 rfl ?_
        have g3 := h.1
        have h := h.2
        refine V_lrem C dX8_commonDivisor_28 g3 ?_
        refine V_lstore (lv' := [(9, .long (v4 - v4 / v6 * v6)), (4, .long v4), (6, .long v6), (8, .int v8)]) C dX8_commonDivisor_29 (by decide) rfl ?_
        refine V_lload C 2 dX8_commonDivisor_31 rfl ?_
        refine V_lstore (lv' := [(4, .long v6), (9, .long (v4 - v4 / v6 * v6)), (6, .long v6), (8, .int v8)]) C dX8_commonDivisor_33 (by decide) rfl ?_
        refine V_lload C 1 dX8_commonDivisor_35 rfl ?_
        refine V_lstore (lv' := [(6, .long (v4 - v4 / v6 * v6)), (4, .long v6), (9, .long (v4 - v4 / v6 * v6)), (8, .int v8)]) C dX8_commonDivisor_37 (by decide) rfl ?_
        refine V_iinc (v := (v8 + 1)) (lv' := [(8, .int (v8 + 1)), (6, .long (v4 - v4 / v6 * v6)), (4, .long v6), (9, .long (v4 - v4 / v6 * v6))]) C 3 dX8_commonDivisor_39 rfl rfl (by decide) rfl ?_
        refine V_goto C 9 dX8_commonDivisor_42 (by decide) ?_
        refine V_drop (lv' := [(4, .long v6), (6, .long (v4 - v4 / v6 * v6)), (8, .int (v8 + 1))]) [2, 1, 0] rfl ?_
        exact ih v6 (v4 - v4 / v6 * v6) (v8 + 1) M h 
  unfold w_X8_commonDivisor at h
  refine V_lload_n C 0 dX8_commonDivisor_0 rfl ?_
  refine V_lstore (lv' := [(4, .long x1), (0, .long x1), (2, .long x2)]) C dX8_commonDivisor_1 (by decide) rfl ?_
  refine V_lload_n C 2 dX8_commonDivisor_3 rfl ?_
  refine V_lstore (lv' := [(6, .long x2), (4, .long x1), (0, .long x1), (2, .long x2)]) C dX8_commonDivisor_4 (by decide) rfl ?_
  refine V_iconst (v := (0 : Int32)) C dX8_commonDivisor_6 (by decide) ?_
  refine V_istore (lv' := [(8, .int (0 : Int32)), (6, .long x2), (4, .long x1), (0, .long x1), (2, .long x2)]) C dX8_commonDivisor_7 (by decide) rfl ?_
  refine V_drop (lv' := [(4, .long x1), (6, .long x2), (8, .int (0 : Int32))]) [2, 1, 0] rfl ?_
  obtain ⟨n0, h⟩ := h
  exact L9  n0 x1 x2 (0 : Int32) M h 
def w_X8_shareOut_41  (post : Mm → Prop)  : Nat → Int32 → Int64 → Int32 → Mm → Prop
  | 0 => fun _ _ _ _ => False
  | n + 1 => fun v2 v6 v8 M =>
    (((M.1 3 2) ≤ v8) → (post M)) ∧ ((¬ (M.1 3 2) ≤ v8) → (w_X2_endsAt 3 v8 v2 M (fun r2 M3 => ((r2 = 0) → (w_X8_shareOut_41  post  n v2 v6 (v8 + 1) M3)) ∧ ((¬ r2 = 0) → (w_X2_across 3 v8 v2 M3 (fun r6 M7 => (vp_in r6 5) ∧ (∀ M10 : Mm, M10 = wJ M7 83 (vp_updL (M7.2 83) r6.toNatClampNeg ((M7.2 83 r6.toNatClampNeg) + v6)) → (w_X8_shareOut_41  post  n v2 v6 (v8 + 1) M10))))))))
def w_X8_shareOut (x1 : Int32) (x2 : Int64) (M : Mm) (post : Mm → Prop) : Prop :=
  w_X2_doorsOf 3 x1 M (fun r12 M13 => ((0 < r12) → ((¬ (r12.toInt64) = 0) ∧ (∃ n0 : Nat, w_X8_shareOut_41  post  n0 x1 (x2 * ((420 : Int64) / (r12.toInt64))) (0 : Int32) M13))) ∧ ((¬ 0 < r12) → ((vp_in x1 5) ∧ (∀ M18 : Mm, M18 = wJ M13 83 (vp_updL (M13.2 83) x1.toNatClampNeg ((M13.2 83 x1.toNatClampNeg) + (x2 * (420 : Int64)))) → (post M18)))))
theorem iw_X8_shareOut_X2 : ∀ w ∈ u_ws RX2 TX2 18, w ∈ wsX8_shareOut := by decide +kernel
theorem iw_X8_shareOut_X8 : ∀ w ∈ u_ws RX8 TX8 8, w ∈ wsX8_shareOut := by decide +kernel
theorem m_X8_shareOut_f75 : Cond.fieldLink RX8 75 "ShameYards$House" "passageCount" "I" ∈ wsX8_shareOut := by decide +kernel
theorem m_X8_shareOut_f18 : Cond.fieldLink RX8 18 "ShameYards$Wander" "next" "[J" ∈ wsX8_shareOut := by decide +kernel
theorem m_X8_shareOut_c73 : Jvm.Cond.constantLong RX8 73 (420) ∈ wsX8_shareOut := by decide +kernel
set_option maxHeartbeats 4000000 in
set_option maxRecDepth 100000 in
theorem c_X8_shareOut (l : Launch) (D : va_G) (cy : Nat → ClassId) (ad : Nat → Nat) (A : Nat → Prop) (G : Gd A ad nsX)   (x1 : Int32) (x2 : Int64) (M : Mm) (post : Mm → Prop) (h : w_X8_shareOut x1 x2 M post) : CV l yX8_shareOut wsX8_shareOut (rmL 4) D (tysC cy) A ad nsX (ceX ad cy) (ExX A ad) [.ref (ad 80), .ref (ad 3), .int x1, .long x2] M post := by
  refine Met_V (cc := cX8_shareOut) (maxL := 9) (ret := none) (by decide) rfl G Lo_X ExX_ok (Nat.le_of_ble_eq_true rfl) rfl ?_
  intro p e s m args below meth c C hr hlk
  have C : Cx p s m args c cX8_shareOut 9 RX8 wsX8_shareOut D (tysC cy) A ad nsX (ceX ad cy) (ExX A ad) := C
  have L41 : ∀  (n : Nat) (v2 : Int32) (v6 : Int64) (v8 : Int32) (M : Mm), w_X8_shareOut_41  post  n v2 v6 v8 M → V p l e (rmL 4) s m args below meth c (MQ below (va_Qv post (Wd D (tysC cy) ad nsX (ceX ad cy) (ExX A ad)) A) args s 0 0 A) D A ad nsX (ceX ad cy) 9 M [(0, .ref (ad 80)), (1, .ref (ad 3)), (2, .int v2), (6, .long v6), (8, .int v8)] 41 [] := by
    intro  n
    induction n with
    | zero => intro v2 v6 v8 M h; exact h.elim
    | succ n ih =>
    intro v2 v6 v8 M h 
    unfold w_X8_shareOut_41 at h
    refine V_iload C 4 dX8_shareOut_41 rfl ?_
    refine V_aload_n C 1 dX8_shareOut_43 rfl ?_
    refine V_get (k0 := 2) (Cn := RX2) (T := TX2) (N := 18) C (nsX_mem (by decide)) rfl iw_X8_shareOut_X2 (by decide) rfl m_X8_shareOut_f75 (ceX_3 _) rfl dX8_shareOut_44 ?_
    refine V_icmp_ge C 83 dX8_shareOut_47 (by decide) (fun q1 => ?_) (fun q1 => ?_)
    · have h := h.1 q1
      exact V_vret C hr hlk dX8_shareOut_83 h
    · have h := h.2 q1
      refine V_aload_n C 1 dX8_shareOut_50 rfl ?_
      refine V_iload C 4 dX8_shareOut_51 rfl ?_
      refine V_iload_n C 2 dX8_shareOut_53 rfl ?_
      refine V_callVi (q := (RX2, TX2, 18)) (rest := []) C (nsX_mem (by decide)) (ceX_3 _) rfl (c_X2_endsAt l D cy ad A G 3 (by decide) v8 v2 M _ h) (cwV 2 C.1.2.2.2.2 gX8_shareOut_X2_endsAt rfl rfl rfl (by decide +kernel) ⟨by decide, by decide⟩) rfl rfl (Nat.le_of_ble_eq_true rfl) dX8_shareOut_54 (fun r2 M3 h => ?_)
      obtain ⟨z4, h⟩ := h
      refine V_if_eq C 77 dX8_shareOut_57 (by decide) (fun q5 => ?_) (fun q5 => ?_)
      · have h := h.1 q5
        refine V_iinc (v := (v8 + 1)) (lv' := [(8, .int (v8 + 1)), (0, .ref (ad 80)), (1, .ref (ad 3)), (2, .int v2), (6, .long v6)]) C 4 dX8_shareOut_77 rfl rfl (by decide) rfl ?_
        refine V_goto C 41 dX8_shareOut_80 (by decide) ?_
        refine V_drop (lv' := [(0, .ref (ad 80)), (1, .ref (ad 3)), (2, .int v2), (6, .long v6), (8, .int (v8 + 1))]) [1, 2, 3, 4, 0] rfl ?_
        exact ih v2 v6 (v8 + 1) M3 h 
      · have h := h.2 q5
        refine V_aload_n C 0 dX8_shareOut_60 rfl ?_
        refine V_get (k0 := 2) (Cn := RX8) (T := TX8) (N := 8) C (nsX_mem (by decide)) rfl iw_X8_shareOut_X8 (by decide) rfl m_X8_shareOut_f18 (ceX_80 _) rfl dX8_shareOut_61 ?_
        refine V_aload_n C 1 dX8_shareOut_64 rfl ?_
        refine V_iload C 4 dX8_shareOut_65 rfl ?_
        refine V_iload_n C 2 dX8_shareOut_67 rfl ?_
        refine V_callVi (q := (RX2, TX2, 18)) (rest := [.ref (ad 83)]) C (nsX_mem (by decide)) (ceX_3 _) rfl (c_X2_across l D cy ad A G 3 (by decide) v8 v2 M3 _ h) (cwV 2 C.1.2.2.2.2 gX8_shareOut_X2_across rfl rfl rfl (by decide +kernel) ⟨by decide, by decide⟩) rfl rfl (Nat.le_of_ble_eq_true rfl) dX8_shareOut_68 (fun r6 M7 h => ?_)
        refine V_dup2 C dX8_shareOut_71 rfl rfl ?_
        have g9 := h.1
        have h := h.2
        refine V_lald (t0 := 2) (L := 5) C (nsX_mem (by decide)) (fun _ => rfl) rfl g9 dX8_shareOut_72 ?_
        refine V_lload C 3 dX8_shareOut_73 rfl ?_
        refine V_ladd C dX8_shareOut_75 ?_
        refine V_last (t0 := 2) (L := 5) C (nsX_mem (by decide)) (fun _ => rfl) rfl g9 dX8_shareOut_76 (fun M10 e11 => ?_)
        have h := h M10 e11
        refine V_iinc (v := (v8 + 1)) (lv' := [(8, .int (v8 + 1)), (0, .ref (ad 80)), (1, .ref (ad 3)), (2, .int v2), (6, .long v6)]) C 4 dX8_shareOut_77 rfl rfl (by decide) rfl ?_
        refine V_goto C 41 dX8_shareOut_80 (by decide) ?_
        refine V_drop (lv' := [(0, .ref (ad 80)), (1, .ref (ad 3)), (2, .int v2), (6, .long v6), (8, .int (v8 + 1))]) [1, 2, 3, 4, 0] rfl ?_
        exact ih v2 v6 (v8 + 1) M10 h 
  unfold w_X8_shareOut at h
  refine V_aload_n C 1 dX8_shareOut_0 rfl ?_
  refine V_iload_n C 2 dX8_shareOut_1 rfl ?_
  refine V_callVi (q := (RX2, TX2, 18)) (rest := []) C (nsX_mem (by decide)) (ceX_3 _) rfl (c_X2_doorsOf l D cy ad A G 3 (by decide) x1 M _ h) (cwV 1 C.1.2.2.2.2 gX8_shareOut_X2_doorsOf rfl rfl rfl (by decide +kernel) ⟨by decide, by decide⟩) rfl rfl (Nat.le_of_ble_eq_true rfl) dX8_shareOut_2 (fun r12 M13 h => ?_)
  refine V_istore (lv' := [(5, .int r12), (0, .ref (ad 80)), (1, .ref (ad 3)), (2, .int x1), (3, .long x2)]) C dX8_shareOut_5 (by decide) rfl ?_
  refine V_iload C 0 dX8_shareOut_7 rfl ?_
  refine V_if_gt C 27 dX8_shareOut_9 (by decide) (fun q15 => ?_) (fun q15 => ?_)
  · have h := h.1 q15
    refine V_lload_n C 4 dX8_shareOut_27 rfl ?_
    refine V_ldc2 (v := (420 : Int64)) C dX8_shareOut_28 m_X8_shareOut_c73 ?_
    refine V_iload C 0 dX8_shareOut_31 rfl ?_
    refine V_i2l C dX8_shareOut_33 ?_
    have g16 := h.1
    have h := h.2
    refine V_ldiv C dX8_shareOut_34 g16 ?_
    refine V_lmul C dX8_shareOut_35 ?_
    refine V_lstore (lv' := [(6, .long (x2 * ((420 : Int64) / (r12.toInt64)))), (5, .int r12), (0, .ref (ad 80)), (1, .ref (ad 3)), (2, .int x1), (3, .long x2)]) C dX8_shareOut_36 (by decide) rfl ?_
    refine V_iconst (v := (0 : Int32)) C dX8_shareOut_38 (by decide) ?_
    refine V_istore (lv' := [(8, .int (0 : Int32)), (6, .long (x2 * ((420 : Int64) / (r12.toInt64)))), (5, .int r12), (0, .ref (ad 80)), (1, .ref (ad 3)), (2, .int x1), (3, .long x2)]) C dX8_shareOut_39 (by decide) rfl ?_
    refine V_drop (lv' := [(0, .ref (ad 80)), (1, .ref (ad 3)), (2, .int x1), (6, .long (x2 * ((420 : Int64) / (r12.toInt64)))), (8, .int (0 : Int32))]) [3, 4, 5, 1, 0] rfl ?_
    obtain ⟨n0, h⟩ := h
    exact L41  n0 x1 (x2 * ((420 : Int64) / (r12.toInt64))) (0 : Int32) M13 h 
  · have h := h.2 q15
    refine V_aload_n C 1 dX8_shareOut_12 rfl ?_
    refine V_get (k0 := 2) (Cn := RX8) (T := TX8) (N := 8) C (nsX_mem (by decide)) rfl iw_X8_shareOut_X8 (by decide) rfl m_X8_shareOut_f18 (ceX_80 _) rfl dX8_shareOut_13 ?_
    refine V_iload_n C 3 dX8_shareOut_16 rfl ?_
    refine V_dup2 C dX8_shareOut_17 rfl rfl ?_
    have g17 := h.1
    have h := h.2
    refine V_lald (t0 := 2) (L := 5) C (nsX_mem (by decide)) (fun _ => rfl) rfl g17 dX8_shareOut_18 ?_
    refine V_lload_n C 4 dX8_shareOut_19 rfl ?_
    refine V_ldc2 (v := (420 : Int64)) C dX8_shareOut_20 m_X8_shareOut_c73 ?_
    refine V_lmul C dX8_shareOut_23 ?_
    refine V_ladd C dX8_shareOut_24 ?_
    refine V_last (t0 := 2) (L := 5) C (nsX_mem (by decide)) (fun _ => rfl) rfl g17 dX8_shareOut_25 (fun M18 e19 => ?_)
    have h := h M18 e19
    exact V_vret C hr hlk dX8_shareOut_26 h
def w_X8_spread_31 (an : Nat) (post : Mm → Prop) (k14 : Int32 → Int32 → Mm → Prop) : Nat → Int32 → Int32 → Int32 → Mm → Prop
  | 0 => fun _ _ _ _ => False
  | n + 1 => fun v3 v5 v6 M =>
    (((M.1 3 1) ≤ v6) → (∀ M2 : Mm, M2 = wJ M an (va_cpy (M.2 83) (M.2 an) (0 : Int32).toNatClampNeg (0 : Int32).toNatClampNeg (5 : Int32).toNatClampNeg) → (k14 v3 (v5 + 1) M2))) ∧ ((¬ (M.1 3 1) ≤ v6) → ((vp_in v6 5) ∧ (w_X8_shareOut v6 (M.2 an v6.toNatClampNeg) M (fun M6 => w_X8_spread_31 an post k14 n v3 v5 (v6 + 1) M6))))
def w_X8_spread_14 (an : Nat) (post : Mm → Prop)  : Nat → Int32 → Int32 → Mm → Prop
  | 0 => fun _ _ _ => False
  | n + 1 => fun v3 v5 M =>
    ((v3 ≤ v5) → (post M)) ∧ ((¬ v3 ≤ v5) → (w_J7_fill_d0a16 83 (0 : Int64) M (fun M10 => ∃ n0 : Nat, w_X8_spread_31 an post (w_X8_spread_14 an post  n) n0 v3 v5 (0 : Int32) M10)))
def w_X8_spread (an : Nat) (x1 : Int32) (x2 : Int32) (M : Mm) (post : Mm → Prop) : Prop :=
  w_J7_fill_d0a16 an (0 : Int64) M (fun M13 => (vp_in x1 5) ∧ (∀ M16 : Mm, M16 = wJ M13 an (vp_updL (M13.2 an) x1.toNatClampNeg (1 : Int64)) → (∃ n0 : Nat, w_X8_spread_14 an post  n0 x2 (0 : Int32) M16)))
theorem iw_X8_spread_X2 : ∀ w ∈ u_ws RX2 TX2 18, w ∈ wsX8_spread := by decide +kernel
theorem iw_X8_spread_X8 : ∀ w ∈ u_ws RX8 TX8 8, w ∈ wsX8_spread := by decide +kernel
theorem m_X8_spread_f43 : Cond.fieldLink RX8 43 "ShameYards$House" "roomCount" "I" ∈ wsX8_spread := by decide +kernel
theorem m_X8_spread_f18 : Cond.fieldLink RX8 18 "ShameYards$Wander" "next" "[J" ∈ wsX8_spread := by decide +kernel
theorem m_X8_spread_l63 : Cond.methodLink RX8 63 arraycopyName ∈ wsX8_spread := by decide +kernel
theorem m_X8_spread_nac : Cond.native arraycopyName ∈ wsX8_spread := by decide +kernel
theorem m_X8_spread_sac : Cond.static arraycopyName ∈ wsX8_spread := by decide +kernel
theorem m_X8_spread_isys : Cond.initialized "java/lang/System" ∈ wsX8_spread := by decide +kernel
set_option maxHeartbeats 4000000 in
set_option maxRecDepth 100000 in
theorem c_X8_spread (l : Launch) (D : va_G) (cy : Nat → ClassId) (ad : Nat → Nat) (A : Nat → Prop) (G : Gd A ad nsX) (an : Nat) (m_an : an ∈ nsX) (c_an : ∀ M0 : Mm, ceX ad cy M0 an = .inl (cy 2, 5, .inr (.inl (M0.2 an)))) (x1 : Int32) (x2 : Int32) (M : Mm) (post : Mm → Prop) (h : w_X8_spread an x1 x2 M post) : CV l yX8_spread wsX8_spread (rmL 5) D (tysC cy) A ad nsX (ceX ad cy) (ExX A ad) [.ref (ad 80), .ref (ad 3), .int x1, .int x2, .ref (ad an)] M post := by
  refine Met_V (cc := cX8_spread) (maxL := 7) (ret := none) (by decide) rfl G Lo_X ExX_ok (Nat.le_of_ble_eq_true rfl) rfl ?_
  intro p e s m args below meth c C hr hlk
  have C : Cx p s m args c cX8_spread 7 RX8 wsX8_spread D (tysC cy) A ad nsX (ceX ad cy) (ExX A ad) := C
  have L31 : ∀ (k14 : Int32 → Int32 → Mm → Prop) (hk14 : ∀ (v3 : Int32) (v5 : Int32) (M : Mm), k14 v3 v5 M → V p l e (rmL 5) s m args below meth c (MQ below (va_Qv post (Wd D (tysC cy) ad nsX (ceX ad cy) (ExX A ad)) A) args s 0 0 A) D A ad nsX (ceX ad cy) 7 M [(0, .ref (ad 80)), (1, .ref (ad 3)), (3, .int v3), (4, .ref (ad an)), (5, .int v5)] 14 []) (n : Nat) (v3 : Int32) (v5 : Int32) (v6 : Int32) (M : Mm), w_X8_spread_31 an post k14 n v3 v5 v6 M → V p l e (rmL 5) s m args below meth c (MQ below (va_Qv post (Wd D (tysC cy) ad nsX (ceX ad cy) (ExX A ad)) A) args s 0 0 A) D A ad nsX (ceX ad cy) 7 M [(0, .ref (ad 80)), (1, .ref (ad 3)), (3, .int v3), (4, .ref (ad an)), (5, .int v5), (6, .int v6)] 31 [] := by
    intro k14 hk14 n
    induction n with
    | zero => intro v3 v5 v6 M h; exact h.elim
    | succ n ih =>
    intro v3 v5 v6 M h 
    unfold w_X8_spread_31 at h
    refine V_iload C 5 dX8_spread_31 rfl ?_
    refine V_aload_n C 1 dX8_spread_33 rfl ?_
    refine V_get (k0 := 1) (Cn := RX2) (T := TX2) (N := 18) C (nsX_mem (by decide)) rfl iw_X8_spread_X2 (by decide) rfl m_X8_spread_f43 (ceX_3 _) rfl dX8_spread_34 ?_
    refine V_icmp_ge C 58 dX8_spread_37 (by decide) (fun q1 => ?_) (fun q1 => ?_)
    · have h := h.1 q1
      refine V_aload_n C 0 dX8_spread_58 rfl ?_
      refine V_get (k0 := 2) (Cn := RX8) (T := TX8) (N := 8) C (nsX_mem (by decide)) rfl iw_X8_spread_X8 (by decide) rfl m_X8_spread_f18 (ceX_80 _) rfl dX8_spread_59 ?_
      refine V_iconst (v := (0 : Int32)) C dX8_spread_62 (by decide) ?_
      refine V_aload C 3 dX8_spread_63 rfl ?_
      refine V_iconst (v := (0 : Int32)) C dX8_spread_65 (by decide) ?_
      refine V_iconst (v := (5 : Int32)) C dX8_spread_66 (by decide) ?_
      refine V_copyl (t0 := 2) (L0 := 5) (L1 := 5) C m_X8_spread_l63 m_X8_spread_nac m_X8_spread_sac m_X8_spread_isys (nsX_mem (by decide)) m_an (fun _ => rfl) c_an rfl (by decide) (by decide) (by decide) (by decide) (by decide) (by decide) (Nat.le_of_ble_eq_true rfl) dX8_spread_67 (fun M2 e3 => ?_)
      have h := h M2 e3
      refine V_iinc (v := (v5 + 1)) (lv' := [(5, .int (v5 + 1)), (0, .ref (ad 80)), (1, .ref (ad 3)), (3, .int v3), (4, .ref (ad an)), (6, .int v6)]) C 4 dX8_spread_70 rfl rfl (by decide) rfl ?_
      refine V_goto C 14 dX8_spread_73 (by decide) ?_
      refine V_drop (lv' := [(0, .ref (ad 80)), (1, .ref (ad 3)), (3, .int v3), (4, .ref (ad an)), (5, .int (v5 + 1))]) [1, 2, 3, 4, 0] rfl ?_
      exact hk14 v3 (v5 + 1) M2 h 
    · have h := h.2 q1
      refine V_aload_n C 0 dX8_spread_40 rfl ?_
      refine V_aload_n C 1 dX8_spread_41 rfl ?_
      refine V_iload C 5 dX8_spread_42 rfl ?_
      refine V_aload C 3 dX8_spread_44 rfl ?_
      refine V_iload C 5 dX8_spread_46 rfl ?_
      have g4 := h.1
      have h := h.2
      refine V_lald (t0 := 2) (L := 5) C m_an c_an rfl g4 dX8_spread_48 ?_
      refine V_callVv (q := (RX8, TX8, 8)) (rest := []) C (nsX_mem (by decide)) (ceX_80 _) rfl (c_X8_shareOut l D cy ad A G v6 (M.2 an v6.toNatClampNeg) M _ h) (cwV 3 C.1.2.2.2.2 gX8_spread_X8_shareOut rfl rfl rfl (by decide +kernel) ⟨by decide, by decide⟩) rfl rfl (Nat.le_of_ble_eq_true rfl) dX8_spread_49 (fun M6 h => ?_)
      refine V_iinc (v := (v6 + 1)) (lv' := [(6, .int (v6 + 1)), (0, .ref (ad 80)), (1, .ref (ad 3)), (3, .int v3), (4, .ref (ad an)), (5, .int v5)]) C 5 dX8_spread_52 rfl rfl (by decide) rfl ?_
      refine V_goto C 31 dX8_spread_55 (by decide) ?_
      refine V_drop (lv' := [(0, .ref (ad 80)), (1, .ref (ad 3)), (3, .int v3), (4, .ref (ad an)), (5, .int v5), (6, .int (v6 + 1))]) [1, 2, 3, 4, 5, 0] rfl ?_
      exact ih v3 v5 (v6 + 1) M6 h 
  have L14 : ∀  (n : Nat) (v3 : Int32) (v5 : Int32) (M : Mm), w_X8_spread_14 an post  n v3 v5 M → V p l e (rmL 5) s m args below meth c (MQ below (va_Qv post (Wd D (tysC cy) ad nsX (ceX ad cy) (ExX A ad)) A) args s 0 0 A) D A ad nsX (ceX ad cy) 7 M [(0, .ref (ad 80)), (1, .ref (ad 3)), (3, .int v3), (4, .ref (ad an)), (5, .int v5)] 14 [] := by
    intro  n
    induction n with
    | zero => intro v3 v5 M h; exact h.elim
    | succ n ih =>
    intro v3 v5 M h 
    unfold w_X8_spread_14 at h
    refine V_iload C 4 dX8_spread_14 rfl ?_
    refine V_iload_n C 2 dX8_spread_16 rfl ?_
    refine V_icmp_ge C 76 dX8_spread_17 (by decide) (fun q8 => ?_) (fun q8 => ?_)
    · have h := h.1 q8
      exact V_vret C hr hlk dX8_spread_76 h
    · have h := h.2 q8
      refine V_aload_n C 0 dX8_spread_20 rfl ?_
      refine V_get (k0 := 2) (Cn := RX8) (T := TX8) (N := 8) C (nsX_mem (by decide)) rfl iw_X8_spread_X8 (by decide) rfl m_X8_spread_f18 (ceX_80 _) rfl dX8_spread_21 ?_
      refine V_lconst (v := (0 : Int64)) C dX8_spread_24 (by decide) ?_
      refine V_callSv (rest := []) C (c_J7_fill_d0a16 l D cy ad A G 83 (nsX_mem (by decide)) (fun _ => rfl) (0 : Int64) M _ h) (va_cwS 2 C.1.2.2.2.2 gX8_spread_J7_fill_d0a16 rfl rfl rfl (by decide +kernel) ⟨by decide, by decide⟩) rfl rfl (Nat.le_of_ble_eq_true rfl) dX8_spread_25 (fun M10 h => ?_)
      refine V_iconst (v := (0 : Int32)) C dX8_spread_28 (by decide) ?_
      refine V_istore (lv' := [(6, .int (0 : Int32)), (0, .ref (ad 80)), (1, .ref (ad 3)), (3, .int v3), (4, .ref (ad an)), (5, .int v5)]) C dX8_spread_29 (by decide) rfl ?_
      refine V_drop (lv' := [(0, .ref (ad 80)), (1, .ref (ad 3)), (3, .int v3), (4, .ref (ad an)), (5, .int v5), (6, .int (0 : Int32))]) [1, 2, 3, 4, 5, 0] rfl ?_
      obtain ⟨n0, h⟩ := h
      exact L31 (w_X8_spread_14 an post  n) ih n0 v3 v5 (0 : Int32) M10 h 
  unfold w_X8_spread at h
  refine V_aload C 4 dX8_spread_0 rfl ?_
  refine V_lconst (v := (0 : Int64)) C dX8_spread_2 (by decide) ?_
  refine V_callSv (rest := []) C (c_J7_fill_d0a16 l D cy ad A G an m_an c_an (0 : Int64) M _ h) (va_cwS 2 C.1.2.2.2.2 gX8_spread_J7_fill_d0a16 rfl rfl rfl (by decide +kernel) ⟨by decide, by decide⟩) rfl rfl (Nat.le_of_ble_eq_true rfl) dX8_spread_3 (fun M13 h => ?_)
  refine V_aload C 4 dX8_spread_6 rfl ?_
  refine V_iload_n C 2 dX8_spread_8 rfl ?_
  refine V_lconst (v := (1 : Int64)) C dX8_spread_9 (by decide) ?_
  have g15 := h.1
  have h := h.2
  refine V_last (t0 := 2) (L := 5) C m_an c_an rfl g15 dX8_spread_10 (fun M16 e17 => ?_)
  have h := h M16 e17
  refine V_iconst (v := (0 : Int32)) C dX8_spread_11 (by decide) ?_
  refine V_istore (lv' := [(5, .int (0 : Int32)), (0, .ref (ad 80)), (1, .ref (ad 3)), (2, .int x1), (3, .int x2), (4, .ref (ad an))]) C dX8_spread_12 (by decide) rfl ?_
  refine V_drop (lv' := [(0, .ref (ad 80)), (1, .ref (ad 3)), (3, .int x2), (4, .ref (ad an)), (5, .int (0 : Int32))]) [1, 2, 4, 5, 0] rfl ?_
  obtain ⟨n0, h⟩ := h
  exact L14  n0 x2 (0 : Int32) M16 h 
def w_X8_compare_89  (post : Mm → Prop)  : Nat → Int32 → Int32 → Mm → Prop
  | 0 => fun _ _ _ => False
  | n + 1 => fun v4 v5 M =>
    ((v4 ≤ v5) → (w_X8_commonDivisor (M.2 80 4) (M.2 80 5) M (fun r2 M3 => (((lg_cmp r2 (0 : Int64)) ≤ 0) → (post M3)) ∧ ((¬ (lg_cmp r2 (0 : Int64)) ≤ 0) → ((¬ r2 = 0) ∧ (∀ M7 : Mm, M7 = wJ M3 80 (vp_updL (M3.2 80) 4 ((M3.2 80 4) / r2)) → (∀ M9 : Mm, M9 = wJ M7 80 (vp_updL (M7.2 80) 5 ((M7.2 80 5) / r2)) → (post M9)))))))) ∧ ((¬ v4 ≤ v5) → (∀ M11 : Mm, M11 = wJ M 80 (vp_updL (M.2 80) 5 ((M.2 80 5) * (176400 : Int64))) → (w_X8_compare_89  post  n v4 (v5 + 1) M11)))
def w_X8_compare_42  (post : Mm → Prop)  : Nat → Int32 → Int32 → Mm → Prop
  | 0 => fun _ _ _ => False
  | n + 1 => fun v4 v5 M =>
    (((M.1 3 1) ≤ v5) → (∀ M14 : Mm, M14 = wJ M 80 (vp_updL (M.2 80) 5 (1 : Int64)) → (∃ n0 : Nat, w_X8_compare_89  post  n0 v4 (0 : Int32) M14))) ∧ ((¬ (M.1 3 1) ≤ v5) → ((vp_in v5 5) ∧ (∀ M17 : Mm, M17 = wJ M 80 (vp_updL (M.2 80) 4 ((M.2 80 4) + ((M.2 81 v5.toNatClampNeg) * (M.2 82 v5.toNatClampNeg)))) → (w_X8_compare_42  post  n v4 (v5 + 1) M17))))
def w_X8_compare (x1 : Int32) (x2 : Int32) (x3 : Int32) (M : Mm) (post : Mm → Prop) : Prop :=
  (vp_in x1 5) ∧ (w_X8_spread 81 (M.1 16 x1.toNatClampNeg) x3 M (fun M21 => (vp_in x2 5) ∧ (w_X8_spread 82 (M21.1 16 x2.toNatClampNeg) x3 M21 (fun M25 => ∀ M27 : Mm, M27 = wJ M25 80 (vp_updL (M25.2 80) 4 (0 : Int64)) → (∃ n0 : Nat, w_X8_compare_42  post  n0 x3 (0 : Int32) M27)))))
theorem iw_X8_compare_X8 : ∀ w ∈ u_ws RX8 TX8 8, w ∈ wsX8_compare := by decide +kernel
theorem iw_X8_compare_X2 : ∀ w ∈ u_ws RX2 TX2 18, w ∈ wsX8_compare := by decide +kernel
theorem m_X8_compare_f40 : Cond.fieldLink RX8 40 "ShameYards$Wander" "above" "J" ∈ wsX8_compare := by decide +kernel
theorem m_X8_compare_f28 : Cond.fieldLink RX8 28 "ShameYards$Wander" "below" "J" ∈ wsX8_compare := by decide +kernel
theorem m_X8_compare_c47 : Jvm.Cond.constantLong RX8 47 (176400) ∈ wsX8_compare := by decide +kernel
theorem m_X8_compare_f43 : Cond.fieldLink RX8 43 "ShameYards$House" "roomCount" "I" ∈ wsX8_compare := by decide +kernel
theorem m_X8_compare_f9 : Cond.fieldLink RX8 9 "ShameYards$Wander" "chancesOfA" "[J" ∈ wsX8_compare := by decide +kernel
theorem m_X8_compare_f15 : Cond.fieldLink RX8 15 "ShameYards$Wander" "chancesOfB" "[J" ∈ wsX8_compare := by decide +kernel
theorem m_X8_compare_f32 : Cond.fieldLink RX8 32 "ShameYards$House" "places" "[I" ∈ wsX8_compare := by decide +kernel
set_option maxHeartbeats 4000000 in
set_option maxRecDepth 100000 in
theorem c_X8_compare (l : Launch) (D : va_G) (cy : Nat → ClassId) (ad : Nat → Nat) (A : Nat → Prop) (G : Gd A ad nsX)   (x1 : Int32) (x2 : Int32) (x3 : Int32) (M : Mm) (post : Mm → Prop) (h : w_X8_compare x1 x2 x3 M post) : CV l yX8_compare wsX8_compare (rmL 6) D (tysC cy) A ad nsX (ceX ad cy) (ExX A ad) [.ref (ad 80), .ref (ad 3), .int x1, .int x2, .int x3] M post := by
  refine Met_V (cc := cX8_compare) (maxL := 7) (ret := none) (by decide) rfl G Lo_X ExX_ok (Nat.le_of_ble_eq_true rfl) rfl ?_
  intro p e s m args below meth c C hr hlk
  have C : Cx p s m args c cX8_compare 7 RX8 wsX8_compare D (tysC cy) A ad nsX (ceX ad cy) (ExX A ad) := C
  have L89 : ∀  (n : Nat) (v4 : Int32) (v5 : Int32) (M : Mm), w_X8_compare_89  post  n v4 v5 M → V p l e (rmL 6) s m args below meth c (MQ below (va_Qv post (Wd D (tysC cy) ad nsX (ceX ad cy) (ExX A ad)) A) args s 0 0 A) D A ad nsX (ceX ad cy) 7 M [(0, .ref (ad 80)), (4, .int v4), (5, .int v5)] 89 [] := by
    intro  n
    induction n with
    | zero => intro v4 v5 M h; exact h.elim
    | succ n ih =>
    intro v4 v5 M h 
    unfold w_X8_compare_89 at h
    refine V_iload C 2 dX8_compare_89 rfl ?_
    refine V_iload C 1 dX8_compare_91 rfl ?_
    refine V_icmp_ge C 114 dX8_compare_93 (by decide) (fun q1 => ?_) (fun q1 => ?_)
    · have h := h.1 q1
      refine V_aload_n C 0 dX8_compare_114 rfl ?_
      refine V_get (k0 := 4) (Cn := RX8) (T := TX8) (N := 8) C (nsX_mem (by decide)) rfl iw_X8_compare_X8 (by decide) rfl m_X8_compare_f40 (ceX_80 _) rfl dX8_compare_115 ?_
      refine V_aload_n C 0 dX8_compare_118 rfl ?_
      refine V_get (k0 := 5) (Cn := RX8) (T := TX8) (N := 8) C (nsX_mem (by decide)) rfl iw_X8_compare_X8 (by decide) rfl m_X8_compare_f28 (ceX_80 _) rfl dX8_compare_119 ?_
      refine V_callSl (rest := []) C (c_X8_commonDivisor l D cy ad A G (M.2 80 4) (M.2 80 5) M _ h) (va_cwS 2 C.1.2.2.2.2 gX8_compare_X8_commonDivisor rfl rfl rfl (by decide +kernel) ⟨by decide, by decide⟩) rfl rfl (Nat.le_of_ble_eq_true rfl) dX8_compare_122 (fun r2 M3 h => ?_)
      refine V_lstore (lv' := [(5, .long r2), (0, .ref (ad 80)), (4, .int v4)]) C dX8_compare_125 (by decide) rfl ?_
      refine V_lload C 0 dX8_compare_127 rfl ?_
      refine V_lconst (v := (0 : Int64)) C dX8_compare_129 (by decide) ?_
      refine V_lcmp C dX8_compare_130 ?_
      refine V_if_le C 156 dX8_compare_131 (by decide) (fun q5 => ?_) (fun q5 => ?_)
      · have h := h.1 q5
        exact V_vret C hr hlk dX8_compare_156 h
      · have h := h.2 q5
        refine V_aload_n C 1 dX8_compare_134 rfl ?_
        refine V_dup C dX8_compare_135 rfl ?_
        refine V_get (k0 := 4) (Cn := RX8) (T := TX8) (N := 8) C (nsX_mem (by decide)) rfl iw_X8_compare_X8 (by decide) rfl m_X8_compare_f40 (ceX_80 _) rfl dX8_compare_136 ?_
        refine V_lload C 0 dX8_compare_139 rfl ?_
        have g6 := h.1
        have h := h.2
        refine V_ldiv C dX8_compare_141 g6 ?_
        refine V_putJ (k0 := 4) (Cn := RX8) (T := TX8) (N := 8) C (nsX_mem (by decide)) rfl iw_X8_compare_X8 (by decide) rfl m_X8_compare_f40 tyX8_ok nmX8 rfl (show _ = some FieldType.long by decide +kernel) rfl rfl (Nat.le_of_ble_eq_true rfl) (ceX_80 _) (stX80_4  _ _) dX8_compare_142 (fun M7 e8 => ?_)
        have h := h M7 e8
        refine V_aload_n C 1 dX8_compare_145 rfl ?_
        refine V_dup C dX8_compare_146 rfl ?_
        refine V_get (k0 := 5) (Cn := RX8) (T := TX8) (N := 8) C (nsX_mem (by decide)) rfl iw_X8_compare_X8 (by decide) rfl m_X8_compare_f28 (ceX_80 _) rfl dX8_compare_147 ?_
        refine V_lload C 0 dX8_compare_150 rfl ?_
        refine V_ldiv C dX8_compare_152 g6 ?_
        refine V_putJ (k0 := 5) (Cn := RX8) (T := TX8) (N := 8) C (nsX_mem (by decide)) rfl iw_X8_compare_X8 (by decide) rfl m_X8_compare_f28 tyX8_ok nmX8 rfl (show _ = some FieldType.long by decide +kernel) rfl rfl (Nat.le_of_ble_eq_true rfl) (ceX_80 _) (stX80_5  _ _) dX8_compare_153 (fun M9 e10 => ?_)
        have h := h M9 e10
        exact V_vret C hr hlk dX8_compare_156 h
    · have h := h.2 q1
      refine V_aload_n C 0 dX8_compare_96 rfl ?_
      refine V_dup C dX8_compare_97 rfl ?_
      refine V_get (k0 := 5) (Cn := RX8) (T := TX8) (N := 8) C (nsX_mem (by decide)) rfl iw_X8_compare_X8 (by decide) rfl m_X8_compare_f28 (ceX_80 _) rfl dX8_compare_98 ?_
      refine V_ldc2 (v := (176400 : Int64)) C dX8_compare_101 m_X8_compare_c47 ?_
      refine V_lmul C dX8_compare_104 ?_
      refine V_putJ (k0 := 5) (Cn := RX8) (T := TX8) (N := 8) C (nsX_mem (by decide)) rfl iw_X8_compare_X8 (by decide) rfl m_X8_compare_f28 tyX8_ok nmX8 rfl (show _ = some FieldType.long by decide +kernel) rfl rfl (Nat.le_of_ble_eq_true rfl) (ceX_80 _) (stX80_5  _ _) dX8_compare_105 (fun M11 e12 => ?_)
      have h := h M11 e12
      refine V_iinc (v := (v5 + 1)) (lv' := [(5, .int (v5 + 1)), (0, .ref (ad 80)), (4, .int v4)]) C 2 dX8_compare_108 rfl rfl (by decide) rfl ?_
      refine V_goto C 89 dX8_compare_111 (by decide) ?_
      refine V_drop (lv' := [(0, .ref (ad 80)), (4, .int v4), (5, .int (v5 + 1))]) [1, 2, 0] rfl ?_
      exact ih v4 (v5 + 1) M11 h 
  have L42 : ∀  (n : Nat) (v4 : Int32) (v5 : Int32) (M : Mm), w_X8_compare_42  post  n v4 v5 M → V p l e (rmL 6) s m args below meth c (MQ below (va_Qv post (Wd D (tysC cy) ad nsX (ceX ad cy) (ExX A ad)) A) args s 0 0 A) D A ad nsX (ceX ad cy) 7 M [(0, .ref (ad 80)), (1, .ref (ad 3)), (4, .int v4), (5, .int v5)] 42 [] := by
    intro  n
    induction n with
    | zero => intro v4 v5 M h; exact h.elim
    | succ n ih =>
    intro v4 v5 M h 
    unfold w_X8_compare_42 at h
    refine V_iload C 3 dX8_compare_42 rfl ?_
    refine V_aload_n C 1 dX8_compare_44 rfl ?_
    refine V_get (k0 := 1) (Cn := RX2) (T := TX2) (N := 18) C (nsX_mem (by decide)) rfl iw_X8_compare_X2 (by decide) rfl m_X8_compare_f43 (ceX_3 _) rfl dX8_compare_45 ?_
    refine V_icmp_ge C 81 dX8_compare_48 (by decide) (fun q13 => ?_) (fun q13 => ?_)
    · have h := h.1 q13
      refine V_aload_n C 0 dX8_compare_81 rfl ?_
      refine V_lconst (v := (1 : Int64)) C dX8_compare_82 (by decide) ?_
      refine V_putJ (k0 := 5) (Cn := RX8) (T := TX8) (N := 8) C (nsX_mem (by decide)) rfl iw_X8_compare_X8 (by decide) rfl m_X8_compare_f28 tyX8_ok nmX8 rfl (show _ = some FieldType.long by decide +kernel) rfl rfl (Nat.le_of_ble_eq_true rfl) (ceX_80 _) (stX80_5  _ _) dX8_compare_83 (fun M14 e15 => ?_)
      have h := h M14 e15
      refine V_iconst (v := (0 : Int32)) C dX8_compare_86 (by decide) ?_
      refine V_istore (lv' := [(5, .int (0 : Int32)), (0, .ref (ad 80)), (1, .ref (ad 3)), (4, .int v4)]) C dX8_compare_87 (by decide) rfl ?_
      refine V_drop (lv' := [(0, .ref (ad 80)), (4, .int v4), (5, .int (0 : Int32))]) [1, 3, 0] rfl ?_
      obtain ⟨n0, h⟩ := h
      exact L89  n0 v4 (0 : Int32) M14 h 
    · have h := h.2 q13
      refine V_aload_n C 0 dX8_compare_51 rfl ?_
      refine V_dup C dX8_compare_52 rfl ?_
      refine V_get (k0 := 4) (Cn := RX8) (T := TX8) (N := 8) C (nsX_mem (by decide)) rfl iw_X8_compare_X8 (by decide) rfl m_X8_compare_f40 (ceX_80 _) rfl dX8_compare_53 ?_
      refine V_aload_n C 0 dX8_compare_56 rfl ?_
      refine V_get (k0 := 0) (Cn := RX8) (T := TX8) (N := 8) C (nsX_mem (by decide)) rfl iw_X8_compare_X8 (by decide) rfl m_X8_compare_f9 (ceX_80 _) rfl dX8_compare_57 ?_
      refine V_iload C 3 dX8_compare_60 rfl ?_
      have g16 := h.1
      have h := h.2
      refine V_lald (t0 := 2) (L := 5) C (nsX_mem (by decide)) (fun _ => rfl) rfl g16 dX8_compare_62 ?_
      refine V_aload_n C 0 dX8_compare_63 rfl ?_
      refine V_get (k0 := 1) (Cn := RX8) (T := TX8) (N := 8) C (nsX_mem (by decide)) rfl iw_X8_compare_X8 (by decide) rfl m_X8_compare_f15 (ceX_80 _) rfl dX8_compare_64 ?_
      refine V_iload C 3 dX8_compare_67 rfl ?_
      refine V_lald (t0 := 2) (L := 5) C (nsX_mem (by decide)) (fun _ => rfl) rfl g16 dX8_compare_69 ?_
      refine V_lmul C dX8_compare_70 ?_
      refine V_ladd C dX8_compare_71 ?_
      refine V_putJ (k0 := 4) (Cn := RX8) (T := TX8) (N := 8) C (nsX_mem (by decide)) rfl iw_X8_compare_X8 (by decide) rfl m_X8_compare_f40 tyX8_ok nmX8 rfl (show _ = some FieldType.long by decide +kernel) rfl rfl (Nat.le_of_ble_eq_true rfl) (ceX_80 _) (stX80_4  _ _) dX8_compare_72 (fun M17 e18 => ?_)
      have h := h M17 e18
      refine V_iinc (v := (v5 + 1)) (lv' := [(5, .int (v5 + 1)), (0, .ref (ad 80)), (1, .ref (ad 3)), (4, .int v4)]) C 3 dX8_compare_75 rfl rfl (by decide) rfl ?_
      refine V_goto C 42 dX8_compare_78 (by decide) ?_
      refine V_drop (lv' := [(0, .ref (ad 80)), (1, .ref (ad 3)), (4, .int v4), (5, .int (v5 + 1))]) [1, 2, 3, 0] rfl ?_
      exact ih v4 (v5 + 1) M17 h 
  unfold w_X8_compare at h
  refine V_aload_n C 0 dX8_compare_0 rfl ?_
  refine V_aload_n C 1 dX8_compare_1 rfl ?_
  refine V_aload_n C 1 dX8_compare_2 rfl ?_
  refine V_get (k0 := 10) (Cn := RX2) (T := TX2) (N := 18) C (nsX_mem (by decide)) rfl iw_X8_compare_X2 (by decide) rfl m_X8_compare_f32 (ceX_3 _) rfl dX8_compare_3 ?_
  refine V_iload_n C 2 dX8_compare_6 rfl ?_
  have g19 := h.1
  have h := h.2
  refine V_iald (t0 := 1) (L := 5) C (nsX_mem (by decide)) (fun _ => rfl) rfl g19 dX8_compare_7 ?_
  refine V_iload C 4 dX8_compare_8 rfl ?_
  refine V_aload_n C 0 dX8_compare_10 rfl ?_
  refine V_get (k0 := 0) (Cn := RX8) (T := TX8) (N := 8) C (nsX_mem (by decide)) rfl iw_X8_compare_X8 (by decide) rfl m_X8_compare_f9 (ceX_80 _) rfl dX8_compare_11 ?_
  refine V_callVv (q := (RX8, TX8, 8)) (rest := []) C (nsX_mem (by decide)) (ceX_80 _) rfl (c_X8_spread l D cy ad A G 81 (nsX_mem (by decide)) (fun _ => rfl) (M.1 16 x1.toNatClampNeg) x3 M _ h) (cwV 4 C.1.2.2.2.2 gX8_compare_X8_spread rfl rfl rfl (by decide +kernel) ⟨by decide, by decide⟩) rfl rfl (Nat.le_of_ble_eq_true rfl) dX8_compare_14 (fun M21 h => ?_)
  refine V_aload_n C 0 dX8_compare_17 rfl ?_
  refine V_aload_n C 1 dX8_compare_18 rfl ?_
  refine V_aload_n C 1 dX8_compare_19 rfl ?_
  refine V_get (k0 := 10) (Cn := RX2) (T := TX2) (N := 18) C (nsX_mem (by decide)) rfl iw_X8_compare_X2 (by decide) rfl m_X8_compare_f32 (ceX_3 _) rfl dX8_compare_20 ?_
  refine V_iload_n C 3 dX8_compare_23 rfl ?_
  have g23 := h.1
  have h := h.2
  refine V_iald (t0 := 1) (L := 5) C (nsX_mem (by decide)) (fun _ => rfl) rfl g23 dX8_compare_24 ?_
  refine V_iload C 4 dX8_compare_25 rfl ?_
  refine V_aload_n C 0 dX8_compare_27 rfl ?_
  refine V_get (k0 := 1) (Cn := RX8) (T := TX8) (N := 8) C (nsX_mem (by decide)) rfl iw_X8_compare_X8 (by decide) rfl m_X8_compare_f15 (ceX_80 _) rfl dX8_compare_28 ?_
  refine V_callVv (q := (RX8, TX8, 8)) (rest := []) C (nsX_mem (by decide)) (ceX_80 _) rfl (c_X8_spread l D cy ad A G 82 (nsX_mem (by decide)) (fun _ => rfl) (M21.1 16 x2.toNatClampNeg) x3 M21 _ h) (cwV 4 C.1.2.2.2.2 gX8_compare_X8_spread rfl rfl rfl (by decide +kernel) ⟨by decide, by decide⟩) rfl rfl (Nat.le_of_ble_eq_true rfl) dX8_compare_31 (fun M25 h => ?_)
  refine V_aload_n C 0 dX8_compare_34 rfl ?_
  refine V_lconst (v := (0 : Int64)) C dX8_compare_35 (by decide) ?_
  refine V_putJ (k0 := 4) (Cn := RX8) (T := TX8) (N := 8) C (nsX_mem (by decide)) rfl iw_X8_compare_X8 (by decide) rfl m_X8_compare_f40 tyX8_ok nmX8 rfl (show _ = some FieldType.long by decide +kernel) rfl rfl (Nat.le_of_ble_eq_true rfl) (ceX_80 _) (stX80_4  _ _) dX8_compare_36 (fun M27 e28 => ?_)
  have h := h M27 e28
  refine V_iconst (v := (0 : Int32)) C dX8_compare_39 (by decide) ?_
  refine V_istore (lv' := [(5, .int (0 : Int32)), (0, .ref (ad 80)), (1, .ref (ad 3)), (2, .int x1), (3, .int x2), (4, .int x3)]) C dX8_compare_40 (by decide) rfl ?_
  refine V_drop (lv' := [(0, .ref (ad 80)), (1, .ref (ad 3)), (4, .int x3), (5, .int (0 : Int32))]) [1, 2, 5, 0] rfl ?_
  obtain ⟨n0, h⟩ := h
  exact L42  n0 x3 (0 : Int32) M27 h 
def w_X8_draw (x1 : Int32) (M : Mm) (post : Int32 → Mm → Prop) : Prop :=
  ∀ M1 : Mm, M1 = wI M 80 (upd (M.1 80) 7 (((((1103515245 : Int64) * ((M.1 80 7).toInt64)) + (12345 : Int64)) &&& (2147483647 : Int64)).toInt32)) → (((x1 ≤ 0) → (post (0 : Int32) M1)) ∧ ((¬ x1 ≤ 0) → ((¬ x1 = 0) ∧ (post (((M1.1 80 7) / (65536 : Int32)) - ((M1.1 80 7) / (65536 : Int32)) / x1 * x1) M1))))
theorem iw_X8_draw_X8 : ∀ w ∈ u_ws RX8 TX8 8, w ∈ wsX8_draw := by decide +kernel
theorem m_X8_draw_c115 : Jvm.Cond.constantLong RX8 115 (1103515245) ∈ wsX8_draw := by decide +kernel
theorem m_X8_draw_f90 : Cond.fieldLink RX8 90 "ShameYards$Wander" "seed" "I" ∈ wsX8_draw := by decide +kernel
theorem m_X8_draw_c117 : Jvm.Cond.constantLong RX8 117 (12345) ∈ wsX8_draw := by decide +kernel
theorem m_X8_draw_c119 : Jvm.Cond.constantLong RX8 119 (2147483647) ∈ wsX8_draw := by decide +kernel
theorem m_X8_draw_c121 : Jvm.Cond.constant RX8 121 (65536) ∈ wsX8_draw := by decide +kernel
set_option maxHeartbeats 4000000 in
set_option maxRecDepth 100000 in
theorem c_X8_draw (l : Launch) (D : va_G) (cy : Nat → ClassId) (ad : Nat → Nat) (A : Nat → Prop) (G : Gd A ad nsX)   (x1 : Int32) (M : Mm) (post : Int32 → Mm → Prop) (h : w_X8_draw x1 M post) : CI l yX8_draw wsX8_draw (rmL 2) D (tysC cy) A ad nsX (ceX ad cy) (ExX A ad) [.ref (ad 80), .int x1] M post := by
  refine Met_V (cc := cX8_draw) (maxL := 2) (ret := (some .int)) (by decide) rfl G Lo_X ExX_ok (Nat.le_of_ble_eq_true rfl) rfl ?_
  intro p e s m args below meth c C hr hlk
  have C : Cx p s m args c cX8_draw 2 RX8 wsX8_draw D (tysC cy) A ad nsX (ceX ad cy) (ExX A ad) := C
  unfold w_X8_draw at h
  refine V_aload_n C 0 dX8_draw_0 rfl ?_
  refine V_ldc2 (v := (1103515245 : Int64)) C dX8_draw_1 m_X8_draw_c115 ?_
  refine V_aload_n C 0 dX8_draw_4 rfl ?_
  refine V_get (k0 := 7) (Cn := RX8) (T := TX8) (N := 8) C (nsX_mem (by decide)) rfl iw_X8_draw_X8 (by decide) rfl m_X8_draw_f90 (ceX_80 _) rfl dX8_draw_5 ?_
  refine V_i2l C dX8_draw_8 ?_
  refine V_lmul C dX8_draw_9 ?_
  refine V_ldc2 (v := (12345 : Int64)) C dX8_draw_10 m_X8_draw_c117 ?_
  refine V_ladd C dX8_draw_13 ?_
  refine V_ldc2 (v := (2147483647 : Int64)) C dX8_draw_14 m_X8_draw_c119 ?_
  refine V_land C dX8_draw_17 ?_
  refine V_l2i C dX8_draw_18 ?_
  refine V_putI (k0 := 7) (Cn := RX8) (T := TX8) (N := 8) C (nsX_mem (by decide)) rfl iw_X8_draw_X8 (by decide) rfl m_X8_draw_f90 tyX8_ok nmX8 rfl (show _ = some FieldType.int by decide +kernel) rfl rfl (Nat.le_of_ble_eq_true rfl) (ceX_80 _) (stX80_7  _ _) dX8_draw_19 (fun M1 e2 => ?_)
  have h := h M1 e2
  refine V_iload_n C 1 dX8_draw_22 rfl ?_
  refine V_if_le C 38 dX8_draw_23 (by decide) (fun q3 => ?_) (fun q3 => ?_)
  · have h := h.1 q3
    refine V_iconst (v := (0 : Int32)) C dX8_draw_38 (by decide) ?_
    exact V_iret C hr hlk dX8_draw_39 h
  · have h := h.2 q3
    refine V_aload_n C 0 dX8_draw_26 rfl ?_
    refine V_get (k0 := 7) (Cn := RX8) (T := TX8) (N := 8) C (nsX_mem (by decide)) rfl iw_X8_draw_X8 (by decide) rfl m_X8_draw_f90 (ceX_80 _) rfl dX8_draw_27 ?_
    refine V_ldc (v := (65536 : Int32)) C dX8_draw_30 m_X8_draw_c121 ?_
    refine V_idiv C dX8_draw_32 (by decide) ?_
    refine V_iload_n C 1 dX8_draw_33 rfl ?_
    have g4 := h.1
    have h := h.2
    refine V_irem C dX8_draw_34 g4 ?_
    refine V_goto C 39 dX8_draw_35 (by decide) ?_
    exact V_iret C hr hlk dX8_draw_39 h
def w_X8_dreamOfOne_76  (post : Mm → Prop)  (v1 : Int32) (M : Mm) : Prop :=
    w_X8_draw (4 : Int32) M (fun r1 M2 => ((¬ r1 = 0) → (post M2)) ∧ ((r1 = 0) → ((vp_in v1 5) ∧ ((((9 : Int32) ≤ (M2.1 53 v1.toNatClampNeg)) → (post M2)) ∧ ((¬ (9 : Int32) ≤ (M2.1 53 v1.toNatClampNeg)) → (∀ M7 : Mm, M7 = wI M2 53 (upd (M2.1 53) v1.toNatClampNeg ((M2.1 53 v1.toNatClampNeg) + (1 : Int32))) → (post M7)))))))
def w_X8_dreamOfOne  (M : Mm) (post : Mm → Prop) : Prop :=
  w_X8_draw (M.1 41 3) M (fun r9 M10 => (vp_in r9 5) ∧ (w_X2_doorsOf 41 (M10.1 54 r9.toNatClampNeg) M10 (fun r13 M14 => ((r13 ≤ 0) → (w_X8_dreamOfOne_76  post  r9 M14)) ∧ ((¬ r13 ≤ 0) → (w_X8_draw r13 M14 (fun r17 M18 => w_X2_doorOf 41 (M10.1 54 r9.toNatClampNeg) r17 M18 (fun r20 M21 => ((r20 = (-1 : Int32)) → (w_X8_dreamOfOne_76  post  r9 M21)) ∧ ((¬ r20 = (-1 : Int32)) → (w_X2_walk 41 r9 r20 (-1 : Int32) M21 (fun r24 M25 => ∀ M27 : Mm, M27 = wI M25 80 (upd (M25.1 80) 6 ((M21.1 80 6) + r24)) → (w_X8_dreamOfOne_76  post  r9 M27)))))))))))
theorem iw_X8_dreamOfOne_X8 : ∀ w ∈ u_ws RX8 TX8 8, w ∈ wsX8_dreamOfOne := by decide +kernel
theorem iw_X8_dreamOfOne_X2 : ∀ w ∈ u_ws RX2 TX2 18, w ∈ wsX8_dreamOfOne := by decide +kernel
theorem m_X8_dreamOfOne_f24 : Cond.fieldLink RX8 24 "ShameYards$Wander" "dreamt" "LShameYards$House;" ∈ wsX8_dreamOfOne := by decide +kernel
theorem m_X8_dreamOfOne_f112 : Cond.fieldLink RX8 112 "ShameYards$House" "lies" "[I" ∈ wsX8_dreamOfOne := by decide +kernel
theorem m_X8_dreamOfOne_f99 : Cond.fieldLink RX8 99 "ShameYards$House" "peopleCount" "I" ∈ wsX8_dreamOfOne := by decide +kernel
theorem m_X8_dreamOfOne_f32 : Cond.fieldLink RX8 32 "ShameYards$House" "places" "[I" ∈ wsX8_dreamOfOne := by decide +kernel
theorem m_X8_dreamOfOne_f93 : Cond.fieldLink RX8 93 "ShameYards$Wander" "dreamtSteps" "I" ∈ wsX8_dreamOfOne := by decide +kernel
set_option maxHeartbeats 4000000 in
set_option maxRecDepth 100000 in
theorem c_X8_dreamOfOne (l : Launch) (D : va_G) (cy : Nat → ClassId) (ad : Nat → Nat) (A : Nat → Prop) (G : Gd A ad nsX)    (M : Mm) (post : Mm → Prop) (h : w_X8_dreamOfOne  M post) : CV l yX8_dreamOfOne wsX8_dreamOfOne (rmL 6) D (tysC cy) A ad nsX (ceX ad cy) (ExX A ad) [.ref (ad 80)] M post := by
  refine Met_V (cc := cX8_dreamOfOne) (maxL := 5) (ret := none) (by decide) rfl G Lo_X ExX_ok (Nat.le_of_ble_eq_true rfl) rfl ?_
  intro p e s m args below meth c C hr hlk
  have C : Cx p s m args c cX8_dreamOfOne 5 RX8 wsX8_dreamOfOne D (tysC cy) A ad nsX (ceX ad cy) (ExX A ad) := C
  have L76 : ∀  (v1 : Int32) (M : Mm), w_X8_dreamOfOne_76  post  v1 M → V p l e (rmL 6) s m args below meth c (MQ below (va_Qv post (Wd D (tysC cy) ad nsX (ceX ad cy) (ExX A ad)) A) args s 0 0 A) D A ad nsX (ceX ad cy) 5 M [(0, .ref (ad 80)), (1, .int v1)] 76 [] := by
    intro  v1 M h 
    unfold w_X8_dreamOfOne_76 at h
    refine V_aload_n C 0 dX8_dreamOfOne_76 rfl ?_
    refine V_iconst (v := (4 : Int32)) C dX8_dreamOfOne_77 (by decide) ?_
    refine V_callVi (q := (RX8, TX8, 8)) (rest := []) C (nsX_mem (by decide)) (ceX_80 _) rfl (c_X8_draw l D cy ad A G (4 : Int32) M _ h) (cwV 1 C.1.2.2.2.2 gX8_dreamOfOne_X8_draw rfl rfl rfl (by decide +kernel) ⟨by decide, by decide⟩) rfl rfl (Nat.le_of_ble_eq_true rfl) dX8_dreamOfOne_78 (fun r1 M2 h => ?_)
    refine V_if_ne C 111 dX8_dreamOfOne_81 (by decide) (fun q4 => ?_) (fun q4 => ?_)
    · have h := h.1 q4
      exact V_vret C hr hlk dX8_dreamOfOne_111 h
    · have h := h.2 q4
      refine V_aload_n C 0 dX8_dreamOfOne_84 rfl ?_
      refine V_get (k0 := 3) (Cn := RX8) (T := TX8) (N := 8) C (nsX_mem (by decide)) rfl iw_X8_dreamOfOne_X8 (by decide) rfl m_X8_dreamOfOne_f24 (ceX_80 _) rfl dX8_dreamOfOne_85 ?_
      refine V_get (k0 := 9) (Cn := RX2) (T := TX2) (N := 18) C (nsX_mem (by decide)) rfl iw_X8_dreamOfOne_X2 (by decide) rfl m_X8_dreamOfOne_f112 (ceX_41 _) rfl dX8_dreamOfOne_88 ?_
      refine V_iload_n C 1 dX8_dreamOfOne_91 rfl ?_
      have g5 := h.1
      have h := h.2
      refine V_iald (t0 := 1) (L := 5) C (nsX_mem (by decide)) (fun _ => rfl) rfl g5 dX8_dreamOfOne_92 ?_
      refine V_bipush (v := (9 : Int32)) C dX8_dreamOfOne_93 (by decide) ?_
      refine V_icmp_ge C 111 dX8_dreamOfOne_95 (by decide) (fun q6 => ?_) (fun q6 => ?_)
      · have h := h.1 q6
        exact V_vret C hr hlk dX8_dreamOfOne_111 h
      · have h := h.2 q6
        refine V_aload_n C 0 dX8_dreamOfOne_98 rfl ?_
        refine V_get (k0 := 3) (Cn := RX8) (T := TX8) (N := 8) C (nsX_mem (by decide)) rfl iw_X8_dreamOfOne_X8 (by decide) rfl m_X8_dreamOfOne_f24 (ceX_80 _) rfl dX8_dreamOfOne_99 ?_
        refine V_get (k0 := 9) (Cn := RX2) (T := TX2) (N := 18) C (nsX_mem (by decide)) rfl iw_X8_dreamOfOne_X2 (by decide) rfl m_X8_dreamOfOne_f112 (ceX_41 _) rfl dX8_dreamOfOne_102 ?_
        refine V_iload_n C 1 dX8_dreamOfOne_105 rfl ?_
        refine V_dup2 C dX8_dreamOfOne_106 rfl rfl ?_
        refine V_iald (t0 := 1) (L := 5) C (nsX_mem (by decide)) (fun _ => rfl) rfl g5 dX8_dreamOfOne_107 ?_
        refine V_iconst (v := (1 : Int32)) C dX8_dreamOfOne_108 (by decide) ?_
        refine V_iadd C dX8_dreamOfOne_109 ?_
        refine V_iast (t0 := 1) (L := 5) C (nsX_mem (by decide)) (fun _ => rfl) rfl g5 dX8_dreamOfOne_110 (fun M7 e8 => ?_)
        have h := h M7 e8
        exact V_vret C hr hlk dX8_dreamOfOne_111 h
  unfold w_X8_dreamOfOne at h
  refine V_aload_n C 0 dX8_dreamOfOne_0 rfl ?_
  refine V_aload_n C 0 dX8_dreamOfOne_1 rfl ?_
  refine V_get (k0 := 3) (Cn := RX8) (T := TX8) (N := 8) C (nsX_mem (by decide)) rfl iw_X8_dreamOfOne_X8 (by decide) rfl m_X8_dreamOfOne_f24 (ceX_80 _) rfl dX8_dreamOfOne_2 ?_
  refine V_get (k0 := 3) (Cn := RX2) (T := TX2) (N := 18) C (nsX_mem (by decide)) rfl iw_X8_dreamOfOne_X2 (by decide) rfl m_X8_dreamOfOne_f99 (ceX_41 _) rfl dX8_dreamOfOne_5 ?_
  refine V_callVi (q := (RX8, TX8, 8)) (rest := []) C (nsX_mem (by decide)) (ceX_80 _) rfl (c_X8_draw l D cy ad A G (M.1 41 3) M _ h) (cwV 1 C.1.2.2.2.2 gX8_dreamOfOne_X8_draw rfl rfl rfl (by decide +kernel) ⟨by decide, by decide⟩) rfl rfl (Nat.le_of_ble_eq_true rfl) dX8_dreamOfOne_8 (fun r9 M10 h => ?_)
  refine V_istore_n (lv' := [(1, .int r9), (0, .ref (ad 80))]) C dX8_dreamOfOne_11 rfl (by decide) rfl ?_
  refine V_aload_n C 1 dX8_dreamOfOne_12 rfl ?_
  refine V_get (k0 := 3) (Cn := RX8) (T := TX8) (N := 8) C (nsX_mem (by decide)) rfl iw_X8_dreamOfOne_X8 (by decide) rfl m_X8_dreamOfOne_f24 (ceX_80 _) rfl dX8_dreamOfOne_13 ?_
  refine V_get (k0 := 10) (Cn := RX2) (T := TX2) (N := 18) C (nsX_mem (by decide)) rfl iw_X8_dreamOfOne_X2 (by decide) rfl m_X8_dreamOfOne_f32 (ceX_41 _) rfl dX8_dreamOfOne_16 ?_
  refine V_iload_n C 0 dX8_dreamOfOne_19 rfl ?_
  have g12 := h.1
  have h := h.2
  refine V_iald (t0 := 1) (L := 5) C (nsX_mem (by decide)) (fun _ => rfl) rfl g12 dX8_dreamOfOne_20 ?_
  refine V_istore_n (lv' := [(2, .int (M10.1 54 r9.toNatClampNeg)), (1, .int r9), (0, .ref (ad 80))]) C dX8_dreamOfOne_21 rfl (by decide) rfl ?_
  refine V_aload_n C 2 dX8_dreamOfOne_22 rfl ?_
  refine V_get (k0 := 3) (Cn := RX8) (T := TX8) (N := 8) C (nsX_mem (by decide)) rfl iw_X8_dreamOfOne_X8 (by decide) rfl m_X8_dreamOfOne_f24 (ceX_80 _) rfl dX8_dreamOfOne_23 ?_
  refine V_iload_n C 0 dX8_dreamOfOne_26 rfl ?_
  refine V_callVi (q := (RX2, TX2, 18)) (rest := []) C (nsX_mem (by decide)) (ceX_41 _) rfl (c_X2_doorsOf l D cy ad A G 41 (by decide) (M10.1 54 r9.toNatClampNeg) M10 _ h) (cwV 1 C.1.2.2.2.2 gX8_dreamOfOne_X2_doorsOf rfl rfl rfl (by decide +kernel) ⟨by decide, by decide⟩) rfl rfl (Nat.le_of_ble_eq_true rfl) dX8_dreamOfOne_27 (fun r13 M14 h => ?_)
  refine V_istore_n (lv' := [(3, .int r13), (2, .int (M10.1 54 r9.toNatClampNeg)), (1, .int r9), (0, .ref (ad 80))]) C dX8_dreamOfOne_30 rfl (by decide) rfl ?_
  refine V_iload_n C 0 dX8_dreamOfOne_31 rfl ?_
  refine V_if_le C 76 dX8_dreamOfOne_32 (by decide) (fun q16 => ?_) (fun q16 => ?_)
  · have h := h.1 q16
    refine V_drop (lv' := [(0, .ref (ad 80)), (1, .int r9)]) [3, 2] rfl ?_
    exact L76  r9 M14 h 
  · have h := h.2 q16
    refine V_aload_n C 3 dX8_dreamOfOne_35 rfl ?_
    refine V_get (k0 := 3) (Cn := RX8) (T := TX8) (N := 8) C (nsX_mem (by decide)) rfl iw_X8_dreamOfOne_X8 (by decide) rfl m_X8_dreamOfOne_f24 (ceX_80 _) rfl dX8_dreamOfOne_36 ?_
    refine V_iload_n C 1 dX8_dreamOfOne_39 rfl ?_
    refine V_aload_n C 3 dX8_dreamOfOne_40 rfl ?_
    refine V_iload_n C 0 dX8_dreamOfOne_41 rfl ?_
    refine V_callVi (q := (RX8, TX8, 8)) (rest := [.int (M10.1 54 r9.toNatClampNeg), .ref (ad 41)]) C (nsX_mem (by decide)) (ceX_80 _) rfl (c_X8_draw l D cy ad A G r13 M14 _ h) (cwV 1 C.1.2.2.2.2 gX8_dreamOfOne_X8_draw rfl rfl rfl (by decide +kernel) ⟨by decide, by decide⟩) rfl rfl (Nat.le_of_ble_eq_true rfl) dX8_dreamOfOne_42 (fun r17 M18 h => ?_)
    refine V_callVi (q := (RX2, TX2, 18)) (rest := []) C (nsX_mem (by decide)) (ceX_41 _) rfl (c_X2_doorOf l D cy ad A G 41 (by decide) (M10.1 54 r9.toNatClampNeg) r17 M18 _ h) (cwV 2 C.1.2.2.2.2 gX8_dreamOfOne_X2_doorOf rfl rfl rfl (by decide +kernel) ⟨by decide, by decide⟩) rfl rfl (Nat.le_of_ble_eq_true rfl) dX8_dreamOfOne_45 (fun r20 M21 h => ?_)
    refine V_istore (lv' := [(4, .int r20), (3, .int r13), (2, .int (M10.1 54 r9.toNatClampNeg)), (1, .int r9), (0, .ref (ad 80))]) C dX8_dreamOfOne_48 (by decide) rfl ?_
    refine V_iload C 0 dX8_dreamOfOne_50 rfl ?_
    refine V_iconst (v := (-1 : Int32)) C dX8_dreamOfOne_52 (by decide) ?_
    refine V_icmp_eq C 76 dX8_dreamOfOne_53 (by decide) (fun q23 => ?_) (fun q23 => ?_)
    · have h := h.1 q23
      refine V_drop (lv' := [(0, .ref (ad 80)), (1, .int r9)]) [4, 3] rfl ?_
      exact L76  r9 M21 h 
    · have h := h.2 q23
      refine V_aload_n C 4 dX8_dreamOfOne_56 rfl ?_
      refine V_dup C dX8_dreamOfOne_57 rfl ?_
      refine V_get (k0 := 6) (Cn := RX8) (T := TX8) (N := 8) C (nsX_mem (by decide)) rfl iw_X8_dreamOfOne_X8 (by decide) rfl m_X8_dreamOfOne_f93 (ceX_80 _) rfl dX8_dreamOfOne_58 ?_
      refine V_aload_n C 4 dX8_dreamOfOne_61 rfl ?_
      refine V_get (k0 := 3) (Cn := RX8) (T := TX8) (N := 8) C (nsX_mem (by decide)) rfl iw_X8_dreamOfOne_X8 (by decide) rfl m_X8_dreamOfOne_f24 (ceX_80 _) rfl dX8_dreamOfOne_62 ?_
      refine V_iload_n C 3 dX8_dreamOfOne_65 rfl ?_
      refine V_iload C 0 dX8_dreamOfOne_66 rfl ?_
      refine V_iconst (v := (-1 : Int32)) C dX8_dreamOfOne_68 (by decide) ?_
      refine V_callVi (q := (RX2, TX2, 18)) (rest := [.int (M21.1 80 6), .ref (ad 80)]) C (nsX_mem (by decide)) (ceX_41 _) rfl (c_X2_walk l D cy ad A G 41 (by decide) r9 r20 (-1 : Int32) M21 _ h) (cwV 3 C.1.2.2.2.2 gX8_dreamOfOne_X2_walk rfl rfl rfl (by decide +kernel) ⟨by decide, by decide⟩) rfl rfl (Nat.le_of_ble_eq_true rfl) dX8_dreamOfOne_69 (fun r24 M25 h => ?_)
      refine V_iadd C dX8_dreamOfOne_72 ?_
      refine V_putI (k0 := 6) (Cn := RX8) (T := TX8) (N := 8) C (nsX_mem (by decide)) rfl iw_X8_dreamOfOne_X8 (by decide) rfl m_X8_dreamOfOne_f93 tyX8_ok nmX8 rfl (show _ = some FieldType.int by decide +kernel) rfl rfl (Nat.le_of_ble_eq_true rfl) (ceX_80 _) (stX80_6  _ _) dX8_dreamOfOne_73 (fun M27 e28 => ?_)
      have h := h M27 e28
      refine V_drop (lv' := [(0, .ref (ad 80)), (1, .int r9)]) [4, 3] rfl ?_
      exact L76  r9 M27 h 
def w_X8_dream_21  (post : Mm → Prop)  : Nat → Int32 → Int32 → Mm → Prop
  | 0 => fun _ _ _ => False
  | n + 1 => fun v2 v4 M =>
    ((v2 ≤ v4) → (post M)) ∧ ((¬ v2 ≤ v4) → (w_X8_dreamOfOne  M (fun M3 => w_X8_dream_21  post  n v2 (v4 + 1) M3)))
def w_X8_dream (x1 : Int32) (x2 : Int32) (M : Mm) (post : Mm → Prop) : Prop :=
  w_X2_copyFrom 41 3 M (fun M6 => ∀ M8 : Mm, M8 = wI M6 80 (upd (M6.1 80) 7 x2) → (∀ M10 : Mm, M10 = wI M8 80 (upd (M8.1 80) 6 (0 : Int32)) → (∃ n0 : Nat, w_X8_dream_21  post  n0 x1 (0 : Int32) M10)))
theorem iw_X8_dream_X8 : ∀ w ∈ u_ws RX8 TX8 8, w ∈ wsX8_dream := by decide +kernel
theorem m_X8_dream_f24 : Cond.fieldLink RX8 24 "ShameYards$Wander" "dreamt" "LShameYards$House;" ∈ wsX8_dream := by decide +kernel
theorem m_X8_dream_f90 : Cond.fieldLink RX8 90 "ShameYards$Wander" "seed" "I" ∈ wsX8_dream := by decide +kernel
theorem m_X8_dream_f93 : Cond.fieldLink RX8 93 "ShameYards$Wander" "dreamtSteps" "I" ∈ wsX8_dream := by decide +kernel
set_option maxHeartbeats 4000000 in
set_option maxRecDepth 100000 in
theorem c_X8_dream (l : Launch) (D : va_G) (cy : Nat → ClassId) (ad : Nat → Nat) (A : Nat → Prop) (G : Gd A ad nsX)   (x1 : Int32) (x2 : Int32) (M : Mm) (post : Mm → Prop) (h : w_X8_dream x1 x2 M post) : CV l yX8_dream wsX8_dream (rmL 7) D (tysC cy) A ad nsX (ceX ad cy) (ExX A ad) [.ref (ad 80), .ref (ad 3), .int x1, .int x2] M post := by
  refine Met_V (cc := cX8_dream) (maxL := 5) (ret := none) (by decide) rfl G Lo_X ExX_ok (Nat.le_of_ble_eq_true rfl) rfl ?_
  intro p e s m args below meth c C hr hlk
  have C : Cx p s m args c cX8_dream 5 RX8 wsX8_dream D (tysC cy) A ad nsX (ceX ad cy) (ExX A ad) := C
  have L21 : ∀  (n : Nat) (v2 : Int32) (v4 : Int32) (M : Mm), w_X8_dream_21  post  n v2 v4 M → V p l e (rmL 7) s m args below meth c (MQ below (va_Qv post (Wd D (tysC cy) ad nsX (ceX ad cy) (ExX A ad)) A) args s 0 0 A) D A ad nsX (ceX ad cy) 5 M [(0, .ref (ad 80)), (2, .int v2), (4, .int v4)] 21 [] := by
    intro  n
    induction n with
    | zero => intro v2 v4 M h; exact h.elim
    | succ n ih =>
    intro v2 v4 M h 
    unfold w_X8_dream_21 at h
    refine V_iload C 2 dX8_dream_21 rfl ?_
    refine V_iload_n C 1 dX8_dream_23 rfl ?_
    refine V_icmp_ge C 37 dX8_dream_24 (by decide) (fun q1 => ?_) (fun q1 => ?_)
    · have h := h.1 q1
      exact V_vret C hr hlk dX8_dream_37 h
    · have h := h.2 q1
      refine V_aload_n C 0 dX8_dream_27 rfl ?_
      refine V_callVv (q := (RX8, TX8, 8)) (rest := []) C (nsX_mem (by decide)) (ceX_80 _) rfl (c_X8_dreamOfOne l D cy ad A G  M _ h) (cwV 0 C.1.2.2.2.2 gX8_dream_X8_dreamOfOne rfl rfl rfl (by decide +kernel) ⟨by decide, by decide⟩) rfl rfl (Nat.le_of_ble_eq_true rfl) dX8_dream_28 (fun M3 h => ?_)
      refine V_iinc (v := (v4 + 1)) (lv' := [(4, .int (v4 + 1)), (0, .ref (ad 80)), (2, .int v2)]) C 2 dX8_dream_31 rfl rfl (by decide) rfl ?_
      refine V_goto C 21 dX8_dream_34 (by decide) ?_
      refine V_drop (lv' := [(0, .ref (ad 80)), (2, .int v2), (4, .int (v4 + 1))]) [1, 2, 0] rfl ?_
      exact ih v2 (v4 + 1) M3 h 
  unfold w_X8_dream at h
  refine V_aload_n C 0 dX8_dream_0 rfl ?_
  refine V_get (k0 := 3) (Cn := RX8) (T := TX8) (N := 8) C (nsX_mem (by decide)) rfl iw_X8_dream_X8 (by decide) rfl m_X8_dream_f24 (ceX_80 _) rfl dX8_dream_1 ?_
  refine V_aload_n C 1 dX8_dream_4 rfl ?_
  refine V_callVv (q := (RX2, TX2, 18)) (rest := []) C (nsX_mem (by decide)) (ceX_41 _) rfl (c_X2_copyFrom l D cy ad A G 41 3 (by decide) (by decide) M _ h) (cwV 1 C.1.2.2.2.2 gX8_dream_X2_copyFrom rfl rfl rfl (by decide +kernel) ⟨by decide, by decide⟩) rfl rfl (Nat.le_of_ble_eq_true rfl) dX8_dream_5 (fun M6 h => ?_)
  refine V_aload_n C 0 dX8_dream_8 rfl ?_
  refine V_iload_n C 3 dX8_dream_9 rfl ?_
  refine V_putI (k0 := 7) (Cn := RX8) (T := TX8) (N := 8) C (nsX_mem (by decide)) rfl iw_X8_dream_X8 (by decide) rfl m_X8_dream_f90 tyX8_ok nmX8 rfl (show _ = some FieldType.int by decide +kernel) rfl rfl (Nat.le_of_ble_eq_true rfl) (ceX_80 _) (stX80_7  _ _) dX8_dream_10 (fun M8 e9 => ?_)
  have h := h M8 e9
  refine V_aload_n C 0 dX8_dream_13 rfl ?_
  refine V_iconst (v := (0 : Int32)) C dX8_dream_14 (by decide) ?_
  refine V_putI (k0 := 6) (Cn := RX8) (T := TX8) (N := 8) C (nsX_mem (by decide)) rfl iw_X8_dream_X8 (by decide) rfl m_X8_dream_f93 tyX8_ok nmX8 rfl (show _ = some FieldType.int by decide +kernel) rfl rfl (Nat.le_of_ble_eq_true rfl) (ceX_80 _) (stX80_6  _ _) dX8_dream_15 (fun M10 e11 => ?_)
  have h := h M10 e11
  refine V_iconst (v := (0 : Int32)) C dX8_dream_18 (by decide) ?_
  refine V_istore (lv' := [(4, .int (0 : Int32)), (0, .ref (ad 80)), (1, .ref (ad 3)), (2, .int x1), (3, .int x2)]) C dX8_dream_19 (by decide) rfl ?_
  refine V_drop (lv' := [(0, .ref (ad 80)), (2, .int x1), (4, .int (0 : Int32))]) [1, 3, 0] rfl ?_
  obtain ⟨n0, h⟩ := h
  exact L21  n0 x1 (0 : Int32) M10 h 
def w_X8_dreamtInRoomZero  (M : Mm) (post : Int32 → Mm → Prop) : Prop :=
  w_X2_peopleInRoomZero 41 M (fun r1 M2 => post r1 M2)
theorem iw_X8_dreamtInRoomZero_X8 : ∀ w ∈ u_ws RX8 TX8 8, w ∈ wsX8_dreamtInRoomZero := by decide +kernel
theorem m_X8_dreamtInRoomZero_f24 : Cond.fieldLink RX8 24 "ShameYards$Wander" "dreamt" "LShameYards$House;" ∈ wsX8_dreamtInRoomZero := by decide +kernel
set_option maxHeartbeats 4000000 in
set_option maxRecDepth 100000 in
theorem c_X8_dreamtInRoomZero (l : Launch) (D : va_G) (cy : Nat → ClassId) (ad : Nat → Nat) (A : Nat → Prop) (G : Gd A ad nsX)    (M : Mm) (post : Int32 → Mm → Prop) (h : w_X8_dreamtInRoomZero  M post) : CI l yX8_dreamtInRoomZero wsX8_dreamtInRoomZero (rmL 3) D (tysC cy) A ad nsX (ceX ad cy) (ExX A ad) [.ref (ad 80)] M post := by
  refine Met_V (cc := cX8_dreamtInRoomZero) (maxL := 1) (ret := (some .int)) (by decide) rfl G Lo_X ExX_ok (Nat.le_of_ble_eq_true rfl) rfl ?_
  intro p e s m args below meth c C hr hlk
  have C : Cx p s m args c cX8_dreamtInRoomZero 1 RX8 wsX8_dreamtInRoomZero D (tysC cy) A ad nsX (ceX ad cy) (ExX A ad) := C
  unfold w_X8_dreamtInRoomZero at h
  refine V_aload_n C 0 dX8_dreamtInRoomZero_0 rfl ?_
  refine V_get (k0 := 3) (Cn := RX8) (T := TX8) (N := 8) C (nsX_mem (by decide)) rfl iw_X8_dreamtInRoomZero_X8 (by decide) rfl m_X8_dreamtInRoomZero_f24 (ceX_80 _) rfl dX8_dreamtInRoomZero_1 ?_
  refine V_callVi (q := (RX2, TX2, 18)) (rest := []) C (nsX_mem (by decide)) (ceX_41 _) rfl (c_X2_peopleInRoomZero l D cy ad A G 41 (by decide) M _ h) (cwV 0 C.1.2.2.2.2 gX8_dreamtInRoomZero_X2_peopleInRoomZero rfl rfl rfl (by decide +kernel) ⟨by decide, by decide⟩) rfl rfl (Nat.le_of_ble_eq_true rfl) dX8_dreamtInRoomZero_4 (fun r1 M2 h => ?_)
  exact V_iret C hr hlk dX8_dreamtInRoomZero_7 h
