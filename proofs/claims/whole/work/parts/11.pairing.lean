def w_X6_isBetter (x1 : Int32) (x2 : Int32) (M : Mm) (post : Int32 → Mm → Prop) : Prop :=
  ((x1 < (M.1 71 4)) → (post (1 : Int32) M)) ∧ ((¬ x1 < (M.1 71 4)) → (((¬ x1 = (M.1 71 4)) → (post (0 : Int32) M)) ∧ ((x1 = (M.1 71 4)) → ((((M.1 71 5) ≤ x2) → (post (0 : Int32) M)) ∧ ((¬ (M.1 71 5) ≤ x2) → (post (1 : Int32) M))))))
theorem iw_X6_isBetter_X6 : ∀ w ∈ u_ws RX6 TX6 6, w ∈ wsX6_isBetter := by decide +kernel
theorem m_X6_isBetter_f41 : Cond.fieldLink RX6 41 "ShameYards$Pairing" "leastMost" "I" ∈ wsX6_isBetter := by decide +kernel
theorem m_X6_isBetter_f44 : Cond.fieldLink RX6 44 "ShameYards$Pairing" "leastPairs" "I" ∈ wsX6_isBetter := by decide +kernel
set_option maxHeartbeats 4000000 in
set_option maxRecDepth 100000 in
theorem c_X6_isBetter (l : Launch) (D : va_G) (cy : Nat → ClassId) (ad : Nat → Nat) (A : Nat → Prop) (G : Gd A ad nsX)   (x1 : Int32) (x2 : Int32) (M : Mm) (post : Int32 → Mm → Prop) (h : w_X6_isBetter x1 x2 M post) : CI l yX6_isBetter wsX6_isBetter (rmL 2) D (tysC cy) A ad nsX (ceX ad cy) (ExX A ad) [.ref (ad 71), .int x1, .int x2] M (fun r M' => (r = 0 ∨ r = 1) ∧ post r M') := by
  refine Met_V (cc := cX6_isBetter) (maxL := 3) (ret := (some .boolean)) (by decide) rfl G Lo_X ExX_ok (Nat.le_of_ble_eq_true rfl) rfl ?_
  intro p e s m args below meth c C hr hlk
  have C : Cx p s m args c cX6_isBetter 3 RX6 wsX6_isBetter D (tysC cy) A ad nsX (ceX ad cy) (ExX A ad) := C
  unfold w_X6_isBetter at h
  refine V_iload_n C 1 dX6_isBetter_0 rfl ?_
  refine V_aload_n C 0 dX6_isBetter_1 rfl ?_
  refine V_get (k0 := 4) (Cn := RX6) (T := TX6) (N := 6) C (nsX_mem (by decide)) rfl iw_X6_isBetter_X6 (by decide) rfl m_X6_isBetter_f41 (ceX_71 _) rfl dX6_isBetter_2 ?_
  refine V_icmp_lt C 24 dX6_isBetter_5 (by decide) (fun q1 => ?_) (fun q1 => ?_)
  · have h := h.1 q1
    refine V_iconst (v := (1 : Int32)) C dX6_isBetter_24 (by decide) ?_
    refine V_goto C 29 dX6_isBetter_25 (by decide) ?_
    exact V_zret C hr hlk (Or.inr rfl) dX6_isBetter_29 h
  · have h := h.2 q1
    refine V_iload_n C 1 dX6_isBetter_8 rfl ?_
    refine V_aload_n C 0 dX6_isBetter_9 rfl ?_
    refine V_get (k0 := 4) (Cn := RX6) (T := TX6) (N := 6) C (nsX_mem (by decide)) rfl iw_X6_isBetter_X6 (by decide) rfl m_X6_isBetter_f41 (ceX_71 _) rfl dX6_isBetter_10 ?_
    refine V_icmp_ne C 28 dX6_isBetter_13 (by decide) (fun q2 => ?_) (fun q2 => ?_)
    · have h := h.1 q2
      refine V_iconst (v := (0 : Int32)) C dX6_isBetter_28 (by decide) ?_
      exact V_zret C hr hlk (Or.inl rfl) dX6_isBetter_29 h
    · have h := h.2 q2
      refine V_iload_n C 2 dX6_isBetter_16 rfl ?_
      refine V_aload_n C 0 dX6_isBetter_17 rfl ?_
      refine V_get (k0 := 5) (Cn := RX6) (T := TX6) (N := 6) C (nsX_mem (by decide)) rfl iw_X6_isBetter_X6 (by decide) rfl m_X6_isBetter_f44 (ceX_71 _) rfl dX6_isBetter_18 ?_
      refine V_icmp_ge C 28 dX6_isBetter_21 (by decide) (fun q3 => ?_) (fun q3 => ?_)
      · have h := h.1 q3
        refine V_iconst (v := (0 : Int32)) C dX6_isBetter_28 (by decide) ?_
        exact V_zret C hr hlk (Or.inl rfl) dX6_isBetter_29 h
      · have h := h.2 q3
        refine V_iconst (v := (1 : Int32)) C dX6_isBetter_24 (by decide) ?_
        refine V_goto C 29 dX6_isBetter_25 (by decide) ?_
        exact V_zret C hr hlk (Or.inr rfl) dX6_isBetter_29 h
def w_X6_keep (x1 : Int32) (x2 : Int32) (M : Mm) (post : Mm → Prop) : Prop :=
  ∀ M1 : Mm, M1 = wI M 71 (upd (M.1 71) 4 x1) → (∀ M3 : Mm, M3 = wI M1 71 (upd (M1.1 71) 5 x2) → (∀ M5 : Mm, M5 = wI M3 79 (va_cpy (M3.1 78) (M3.1 79) (0 : Int32).toNatClampNeg (0 : Int32).toNatClampNeg (5 : Int32).toNatClampNeg) → (post M5)))
theorem iw_X6_keep_X6 : ∀ w ∈ u_ws RX6 TX6 6, w ∈ wsX6_keep := by decide +kernel
theorem m_X6_keep_f41 : Cond.fieldLink RX6 41 "ShameYards$Pairing" "leastMost" "I" ∈ wsX6_keep := by decide +kernel
theorem m_X6_keep_f44 : Cond.fieldLink RX6 44 "ShameYards$Pairing" "leastPairs" "I" ∈ wsX6_keep := by decide +kernel
theorem m_X6_keep_f16 : Cond.fieldLink RX6 16 "ShameYards$Pairing" "trial" "[I" ∈ wsX6_keep := by decide +kernel
theorem m_X6_keep_f20 : Cond.fieldLink RX6 20 "ShameYards$Pairing" "best" "[I" ∈ wsX6_keep := by decide +kernel
theorem m_X6_keep_l64 : Cond.methodLink RX6 64 arraycopyName ∈ wsX6_keep := by decide +kernel
theorem m_X6_keep_nac : Cond.native arraycopyName ∈ wsX6_keep := by decide +kernel
theorem m_X6_keep_sac : Cond.static arraycopyName ∈ wsX6_keep := by decide +kernel
theorem m_X6_keep_isys : Cond.initialized "java/lang/System" ∈ wsX6_keep := by decide +kernel
set_option maxHeartbeats 4000000 in
set_option maxRecDepth 100000 in
theorem c_X6_keep (l : Launch) (D : va_G) (cy : Nat → ClassId) (ad : Nat → Nat) (A : Nat → Prop) (G : Gd A ad nsX)   (x1 : Int32) (x2 : Int32) (M : Mm) (post : Mm → Prop) (h : w_X6_keep x1 x2 M post) : CV l yX6_keep wsX6_keep (rmL 2) D (tysC cy) A ad nsX (ceX ad cy) (ExX A ad) [.ref (ad 71), .int x1, .int x2] M post := by
  refine Met_V (cc := cX6_keep) (maxL := 3) (ret := none) (by decide) rfl G Lo_X ExX_ok (Nat.le_of_ble_eq_true rfl) rfl ?_
  intro p e s m args below meth c C hr hlk
  have C : Cx p s m args c cX6_keep 3 RX6 wsX6_keep D (tysC cy) A ad nsX (ceX ad cy) (ExX A ad) := C
  unfold w_X6_keep at h
  refine V_aload_n C 0 dX6_keep_0 rfl ?_
  refine V_iload_n C 1 dX6_keep_1 rfl ?_
  refine V_putI (k0 := 4) (Cn := RX6) (T := TX6) (N := 6) C (nsX_mem (by decide)) rfl iw_X6_keep_X6 (by decide) rfl m_X6_keep_f41 tyX6_ok nmX6 rfl (show _ = some FieldType.int by decide +kernel) rfl rfl (Nat.le_of_ble_eq_true rfl) (ceX_71 _) (stX71_4  _ _) dX6_keep_2 (fun M1 e2 => ?_)
  have h := h M1 e2
  refine V_aload_n C 0 dX6_keep_5 rfl ?_
  refine V_iload_n C 2 dX6_keep_6 rfl ?_
  refine V_putI (k0 := 5) (Cn := RX6) (T := TX6) (N := 6) C (nsX_mem (by decide)) rfl iw_X6_keep_X6 (by decide) rfl m_X6_keep_f44 tyX6_ok nmX6 rfl (show _ = some FieldType.int by decide +kernel) rfl rfl (Nat.le_of_ble_eq_true rfl) (ceX_71 _) (stX71_5  _ _) dX6_keep_7 (fun M3 e4 => ?_)
  have h := h M3 e4
  refine V_aload_n C 0 dX6_keep_10 rfl ?_
  refine V_get (k0 := 1) (Cn := RX6) (T := TX6) (N := 6) C (nsX_mem (by decide)) rfl iw_X6_keep_X6 (by decide) rfl m_X6_keep_f16 (ceX_71 _) rfl dX6_keep_11 ?_
  refine V_iconst (v := (0 : Int32)) C dX6_keep_14 (by decide) ?_
  refine V_aload_n C 0 dX6_keep_15 rfl ?_
  refine V_get (k0 := 2) (Cn := RX6) (T := TX6) (N := 6) C (nsX_mem (by decide)) rfl iw_X6_keep_X6 (by decide) rfl m_X6_keep_f20 (ceX_71 _) rfl dX6_keep_16 ?_
  refine V_iconst (v := (0 : Int32)) C dX6_keep_19 (by decide) ?_
  refine V_iconst (v := (5 : Int32)) C dX6_keep_20 (by decide) ?_
  refine V_copyi (t0 := 1) (L0 := 5) (L1 := 5) C m_X6_keep_l64 m_X6_keep_nac m_X6_keep_sac m_X6_keep_isys (nsX_mem (by decide)) (nsX_mem (by decide)) (fun _ => rfl) (fun _ => rfl) rfl (by decide) (by decide) (by decide) (by decide) (by decide) (by decide) (Nat.le_of_ble_eq_true rfl) dX6_keep_21 (fun M5 e6 => ?_)
  have h := h M5 e6
  exact V_vret C hr hlk dX6_keep_24 h
def w_X6_arrangeFrom_24 (rc : Int32 → Int32 → Int32 → Int32 → Mm → (Mm → Prop) → Prop) (post : Mm → Prop)  (v3 : Int32) (v4 : Int32) (M : Mm) : Prop :=
    w_X6_keep v3 v4 M (fun M2 => post M2)
def w_X6_arrangeFrom_86 (rc : Int32 → Int32 → Int32 → Int32 → Mm → (Mm → Prop) → Prop) (post : Mm → Prop)  : Nat → Int32 → Int32 → Int32 → Int32 → Int32 → Mm → Prop
  | 0 => fun _ _ _ _ _ _ => False
  | n + 1 => fun v1 v2 v3 v4 v5 M =>
    (((M.1 71 3) ≤ v5) → (post M)) ∧ ((¬ (M.1 71 3) ≤ v5) → (((¬ ((v2 >>> (v5 &&& 31)) &&& (1 : Int32)) = 0) → (w_X6_arrangeFrom_86 rc post  n v1 v2 v3 v4 (v5 + 1) M)) ∧ ((((v2 >>> (v5 &&& 31)) &&& (1 : Int32)) = 0) → ((vp_in v1 5) ∧ (∀ M7 : Mm, M7 = wI M 78 (upd (M.1 78) v1.toNatClampNeg v5) → ((vp_in v5 5) ∧ (∀ M10 : Mm, M10 = wI M7 78 (upd (M7.1 78) v5.toNatClampNeg v1) → (rc (v1 + (1 : Int32)) (v2 ||| ((1 : Int32) <<< (v5 &&& 31))) (if v3 < (M10.1 (73 + v1.toNatClampNeg) v5.toNatClampNeg) then (M10.1 (73 + v1.toNatClampNeg) v5.toNatClampNeg) else v3) (v4 + (1 : Int32)) M10 (fun M13 => w_X6_arrangeFrom_86 rc post  n v1 v2 v3 v4 (v5 + 1) M13)))))))))
def w_X6_arrangeFrom : Nat → Int32 → Int32 → Int32 → Int32 → Mm → (Mm → Prop) → Prop
  | 0 => fun _ _ _ _ _ _ => False
  | f + 1 => fun x1 x2 x3 x4 M post =>
  w_X6_isBetter x3 x4 M (fun r15 M16 => ((¬ r15 = 0) → ((((M16.1 71 3) ≤ x1) → (w_X6_arrangeFrom_24 (w_X6_arrangeFrom f) post  x3 x4 M16)) ∧ ((¬ (M16.1 71 3) ≤ x1) → (((x1 < (5 : Int32)) → (((((x2 >>> (x1 &&& 31)) &&& (1 : Int32)) = 0) → ((vp_in x1 5) ∧ (∀ M23 : Mm, M23 = wI M16 78 (upd (M16.1 78) x1.toNatClampNeg (-1 : Int32)) → ((w_X6_arrangeFrom f) (x1 + (1 : Int32)) x2 (if x3 < (M23.1 (73 + x1.toNatClampNeg) x1.toNatClampNeg) then (M23.1 (73 + x1.toNatClampNeg) x1.toNatClampNeg) else x3) x4 M23 (fun M26 => ∃ n0 : Nat, w_X6_arrangeFrom_86 (w_X6_arrangeFrom f) post  n0 x1 x2 x3 x4 (x1 + (1 : Int32)) M26))))) ∧ ((¬ ((x2 >>> (x1 &&& 31)) &&& (1 : Int32)) = 0) → ((w_X6_arrangeFrom f) (x1 + (1 : Int32)) x2 x3 x4 M16 (fun M29 => post M29))))) ∧ ((¬ x1 < (5 : Int32)) → (w_X6_arrangeFrom_24 (w_X6_arrangeFrom f) post  x3 x4 M16)))))) ∧ ((r15 = 0) → (post M16)))
theorem iw_X6_arrangeFrom_X6 : ∀ w ∈ u_ws RX6 TX6 6, w ∈ wsX6_arrangeFrom := by decide +kernel
theorem m_X6_arrangeFrom_f29 : Cond.fieldLink RX6 29 "ShameYards$Pairing" "people" "I" ∈ wsX6_arrangeFrom := by decide +kernel
theorem m_X6_arrangeFrom_f16 : Cond.fieldLink RX6 16 "ShameYards$Pairing" "trial" "[I" ∈ wsX6_arrangeFrom := by decide +kernel
theorem m_X6_arrangeFrom_f11 : Cond.fieldLink RX6 11 "ShameYards$Pairing" "has" "[[I" ∈ wsX6_arrangeFrom := by decide +kernel
theorem m_X6_arrangeFrom_l59 : Cond.methodLink RX6 59 Lib.Math.max.name ∈ wsX6_arrangeFrom := by decide +kernel
theorem m_X6_arrangeFrom_smax : Cond.static Lib.Math.max.name ∈ wsX6_arrangeFrom := by decide +kernel
theorem m_X6_arrangeFrom_imath : Cond.initialized "java/lang/Math" ∈ wsX6_arrangeFrom := by decide +kernel
theorem m_X6_arrangeFrom_kmax : Cond.code Lib.Math.max.name Lib.Math.max.code 2 (some .int) ∈ wsX6_arrangeFrom := by decide +kernel
set_option maxHeartbeats 4000000 in
set_option maxRecDepth 100000 in
theorem c_X6_arrangeFrom (l : Launch) (D : va_G) (cy : Nat → ClassId) (ad : Nat → Nat) (A : Nat → Prop) (G : Gd A ad nsX)   : ∀ (f : Nat) (x1 : Int32) (x2 : Int32) (x3 : Int32) (x4 : Int32) (M : Mm) (post : Mm → Prop) (h : w_X6_arrangeFrom f x1 x2 x3 x4 M post), CV l yX6_arrangeFrom wsX6_arrangeFrom (rmL (3 + f)) D (tysC cy) A ad nsX (ceX ad cy) (ExX A ad) [.ref (ad 71), .int x1, .int x2, .int x3, .int x4] M post := by
  intro f
  induction f with
  | zero => intro x1 x2 x3 x4 M post h; exact h.elim
  | succ f hrc =>
  intro x1 x2 x3 x4 M post h
  unfold w_X6_arrangeFrom at h
  generalize w_X6_arrangeFrom f = rc at h hrc
  refine Met_V (cc := cX6_arrangeFrom) (maxL := 6) (ret := none) (by decide) rfl G Lo_X ExX_ok (Nat.le_of_ble_eq_true rfl) rfl ?_
  intro p e s m args below meth c C hr hlk
  have C : Cx p s m args c cX6_arrangeFrom 6 RX6 wsX6_arrangeFrom D (tysC cy) A ad nsX (ceX ad cy) (ExX A ad) := C
  have L24 : ∀  (v3 : Int32) (v4 : Int32) (M : Mm), w_X6_arrangeFrom_24 rc post  v3 v4 M → V p l e (rmL (3 + (f + 1))) s m args below meth c (MQ below (va_Qv post (Wd D (tysC cy) ad nsX (ceX ad cy) (ExX A ad)) A) args s 0 0 A) D A ad nsX (ceX ad cy) 6 M [(0, .ref (ad 71)), (3, .int v3), (4, .int v4)] 24 [] := by
    intro  v3 v4 M h 
    unfold w_X6_arrangeFrom_24 at h
    refine V_aload_n C 0 dX6_arrangeFrom_24 rfl ?_
    refine V_iload_n C 1 dX6_arrangeFrom_25 rfl ?_
    refine V_iload C 2 dX6_arrangeFrom_26 rfl ?_
    refine V_callVv (q := (RX6, TX6, 6)) (rest := []) C (nsX_mem (by decide)) (ceX_71 _) rfl (c_X6_keep l D cy ad A G v3 v4 M _ h) (cwV 2 C.1.2.2.2.2 gX6_arrangeFrom_X6_keep rfl rfl rfl (by decide +kernel) ⟨by show 2 + 1 ≤ 3 + (f + 1); omega, by show 8 + (3 + 11) + 64 * 2 ≤ 64 * (3 + (f + 1)); omega⟩) rfl rfl (Nat.le_of_ble_eq_true rfl) dX6_arrangeFrom_28 (fun M2 h => ?_)
    exact V_vret C hr hlk dX6_arrangeFrom_31 h
  have L86 : ∀  (n : Nat) (v1 : Int32) (v2 : Int32) (v3 : Int32) (v4 : Int32) (v5 : Int32) (M : Mm), w_X6_arrangeFrom_86 rc post  n v1 v2 v3 v4 v5 M → V p l e (rmL (3 + (f + 1))) s m args below meth c (MQ below (va_Qv post (Wd D (tysC cy) ad nsX (ceX ad cy) (ExX A ad)) A) args s 0 0 A) D A ad nsX (ceX ad cy) 6 M [(0, .ref (ad 71)), (1, .int v1), (2, .int v2), (3, .int v3), (4, .int v4), (5, .int v5)] 86 [] := by
    intro  n
    induction n with
    | zero => intro v1 v2 v3 v4 v5 M h; exact h.elim
    | succ n ih =>
    intro v1 v2 v3 v4 v5 M h 
    unfold w_X6_arrangeFrom_86 at h
    refine V_iload C 5 dX6_arrangeFrom_86 rfl ?_
    refine V_aload_n C 0 dX6_arrangeFrom_88 rfl ?_
    refine V_get (k0 := 3) (Cn := RX6) (T := TX6) (N := 6) C (nsX_mem (by decide)) rfl iw_X6_arrangeFrom_X6 (by decide) rfl m_X6_arrangeFrom_f29 (ceX_71 _) rfl dX6_arrangeFrom_89 ?_
    refine V_icmp_ge C 156 dX6_arrangeFrom_92 (by decide) (fun q4 => ?_) (fun q4 => ?_)
    · have h := h.1 q4
      exact V_vret C hr hlk dX6_arrangeFrom_156 h
    · have h := h.2 q4
      refine V_iload_n C 2 dX6_arrangeFrom_95 rfl ?_
      refine V_iload C 5 dX6_arrangeFrom_96 rfl ?_
      refine V_ishr C dX6_arrangeFrom_98 ?_
      refine V_iconst (v := (1 : Int32)) C dX6_arrangeFrom_99 (by decide) ?_
      refine V_iand C dX6_arrangeFrom_100 ?_
      refine V_if_ne C 150 dX6_arrangeFrom_101 (by decide) (fun q5 => ?_) (fun q5 => ?_)
      · have h := h.1 q5
        refine V_iinc (v := (v5 + 1)) (lv' := [(5, .int (v5 + 1)), (0, .ref (ad 71)), (1, .int v1), (2, .int v2), (3, .int v3), (4, .int v4)]) C 5 dX6_arrangeFrom_150 rfl rfl (by decide) rfl ?_
        refine V_goto C 86 dX6_arrangeFrom_153 (by decide) ?_
        refine V_drop (lv' := [(0, .ref (ad 71)), (1, .int v1), (2, .int v2), (3, .int v3), (4, .int v4), (5, .int (v5 + 1))]) [1, 2, 3, 4, 5, 0] rfl ?_
        exact ih v1 v2 v3 v4 (v5 + 1) M h 
      · have h := h.2 q5
        refine V_aload_n C 0 dX6_arrangeFrom_104 rfl ?_
        refine V_get (k0 := 1) (Cn := RX6) (T := TX6) (N := 6) C (nsX_mem (by decide)) rfl iw_X6_arrangeFrom_X6 (by decide) rfl m_X6_arrangeFrom_f16 (ceX_71 _) rfl dX6_arrangeFrom_105 ?_
        refine V_iload_n C 1 dX6_arrangeFrom_108 rfl ?_
        refine V_iload C 5 dX6_arrangeFrom_109 rfl ?_
        have g6 := h.1
        have h := h.2
        refine V_iast (t0 := 1) (L := 5) C (nsX_mem (by decide)) (fun _ => rfl) rfl g6 dX6_arrangeFrom_111 (fun M7 e8 => ?_)
        have h := h M7 e8
        refine V_aload_n C 0 dX6_arrangeFrom_112 rfl ?_
        refine V_get (k0 := 1) (Cn := RX6) (T := TX6) (N := 6) C (nsX_mem (by decide)) rfl iw_X6_arrangeFrom_X6 (by decide) rfl m_X6_arrangeFrom_f16 (ceX_71 _) rfl dX6_arrangeFrom_113 ?_
        refine V_iload C 5 dX6_arrangeFrom_116 rfl ?_
        refine V_iload_n C 1 dX6_arrangeFrom_118 rfl ?_
        have g9 := h.1
        have h := h.2
        refine V_iast (t0 := 1) (L := 5) C (nsX_mem (by decide)) (fun _ => rfl) rfl g9 dX6_arrangeFrom_119 (fun M10 e11 => ?_)
        have h := h M10 e11
        refine V_aload_n C 0 dX6_arrangeFrom_120 rfl ?_
        refine V_iload_n C 1 dX6_arrangeFrom_121 rfl ?_
        refine V_iconst (v := (1 : Int32)) C dX6_arrangeFrom_122 (by decide) ?_
        refine V_iadd C dX6_arrangeFrom_123 ?_
        refine V_iload_n C 2 dX6_arrangeFrom_124 rfl ?_
        refine V_iconst (v := (1 : Int32)) C dX6_arrangeFrom_125 (by decide) ?_
        refine V_iload C 5 dX6_arrangeFrom_126 rfl ?_
        refine V_ishl C dX6_arrangeFrom_128 ?_
        refine V_ior C dX6_arrangeFrom_129 ?_
        refine V_iload_n C 3 dX6_arrangeFrom_130 rfl ?_
        refine V_aload_n C 0 dX6_arrangeFrom_131 rfl ?_
        refine V_get (k0 := 0) (Cn := RX6) (T := TX6) (N := 6) C (nsX_mem (by decide)) rfl iw_X6_arrangeFrom_X6 (by decide) rfl m_X6_arrangeFrom_f11 (ceX_71 _) rfl dX6_arrangeFrom_132 ?_
        refine V_iload_n C 1 dX6_arrangeFrom_135 rfl ?_
        refine V_aald (t0 := 4) (L := 5) (r := (73 + v1.toNatClampNeg)) C (nsX_mem (by decide)) ((fun _ => rfl) _) rfl rfl g6 (row_at g6) dX6_arrangeFrom_136 ?_
        refine V_iload C 5 dX6_arrangeFrom_137 rfl ?_
        refine V_iald (t0 := 1) (L := 5) C (row_mem 73 g6 (by decide)) (row_73 g6) rfl g9 dX6_arrangeFrom_139 ?_
        refine V_mmax C m_X6_arrangeFrom_l59 m_X6_arrangeFrom_smax m_X6_arrangeFrom_imath m_X6_arrangeFrom_kmax (by show 1 ≤ 3 + (f + 1); omega) (by show 3 + 13 ≤ 64 * (3 + (f + 1)); omega) dX6_arrangeFrom_140 ?_
        refine V_iload C 4 dX6_arrangeFrom_143 rfl ?_
        refine V_iconst (v := (1 : Int32)) C dX6_arrangeFrom_145 (by decide) ?_
        refine V_iadd C dX6_arrangeFrom_146 ?_
        refine V_callSv (rest := []) C (hrc (v1 + (1 : Int32)) (v2 ||| ((1 : Int32) <<< (v5 &&& 31))) (if v3 < (M10.1 (73 + v1.toNatClampNeg) v5.toNatClampNeg) then (M10.1 (73 + v1.toNatClampNeg) v5.toNatClampNeg) else v3) (v4 + (1 : Int32)) M10 _ h) (va_cwS 5 C.1.2.2.2.2 gX6_arrangeFrom_X6_arrangeFrom rfl rfl rfl (by decide +kernel) ⟨by show 3 + f + 1 ≤ 3 + (f + 1); omega, by show 8 + (6 + 11) + 64 * (3 + f) ≤ 64 * (3 + (f + 1)); omega⟩) rfl rfl (Nat.le_of_ble_eq_true rfl) dX6_arrangeFrom_147 (fun M13 h => ?_)
        refine V_iinc (v := (v5 + 1)) (lv' := [(5, .int (v5 + 1)), (0, .ref (ad 71)), (1, .int v1), (2, .int v2), (3, .int v3), (4, .int v4)]) C 5 dX6_arrangeFrom_150 rfl rfl (by decide) rfl ?_
        refine V_goto C 86 dX6_arrangeFrom_153 (by decide) ?_
        refine V_drop (lv' := [(0, .ref (ad 71)), (1, .int v1), (2, .int v2), (3, .int v3), (4, .int v4), (5, .int (v5 + 1))]) [1, 2, 3, 4, 5, 0] rfl ?_
        exact ih v1 v2 v3 v4 (v5 + 1) M13 h 
  refine V_aload_n C 0 dX6_arrangeFrom_0 rfl ?_
  refine V_iload_n C 3 dX6_arrangeFrom_1 rfl ?_
  refine V_iload C 4 dX6_arrangeFrom_2 rfl ?_
  refine V_callVi (q := (RX6, TX6, 6)) (rest := []) C (nsX_mem (by decide)) (ceX_71 _) rfl (c_X6_isBetter l D cy ad A G x3 x4 M _ h) (cwV 2 C.1.2.2.2.2 gX6_arrangeFrom_X6_isBetter rfl rfl rfl (by decide +kernel) ⟨by show 2 + 1 ≤ 3 + (f + 1); omega, by show 8 + (3 + 11) + 64 * 2 ≤ 64 * (3 + (f + 1)); omega⟩) rfl rfl (Nat.le_of_ble_eq_true rfl) dX6_arrangeFrom_4 (fun r15 M16 h => ?_)
  obtain ⟨z17, h⟩ := h
  refine V_if_ne C 11 dX6_arrangeFrom_7 (by decide) (fun q18 => ?_) (fun q18 => ?_)
  · have h := h.1 q18
    refine V_iload_n C 1 dX6_arrangeFrom_11 rfl ?_
    refine V_aload_n C 0 dX6_arrangeFrom_12 rfl ?_
    refine V_get (k0 := 3) (Cn := RX6) (T := TX6) (N := 6) C (nsX_mem (by decide)) rfl iw_X6_arrangeFrom_X6 (by decide) rfl m_X6_arrangeFrom_f29 (ceX_71 _) rfl dX6_arrangeFrom_13 ?_
    refine V_icmp_ge C 24 dX6_arrangeFrom_16 (by decide) (fun q19 => ?_) (fun q19 => ?_)
    · have h := h.1 q19
      refine V_drop (lv' := [(0, .ref (ad 71)), (3, .int x3), (4, .int x4)]) [0, 3, 4] rfl ?_
      exact L24  x3 x4 M16 h 
    · have h := h.2 q19
      refine V_iload_n C 1 dX6_arrangeFrom_19 rfl ?_
      refine V_iconst (v := (5 : Int32)) C dX6_arrangeFrom_20 (by decide) ?_
      refine V_icmp_lt C 32 dX6_arrangeFrom_21 (by decide) (fun q20 => ?_) (fun q20 => ?_)
      · have h := h.1 q20
        refine V_iload_n C 2 dX6_arrangeFrom_32 rfl ?_
        refine V_iload_n C 1 dX6_arrangeFrom_33 rfl ?_
        refine V_ishr C dX6_arrangeFrom_34 ?_
        refine V_iconst (v := (1 : Int32)) C dX6_arrangeFrom_35 (by decide) ?_
        refine V_iand C dX6_arrangeFrom_36 ?_
        refine V_if_eq C 52 dX6_arrangeFrom_37 (by decide) (fun q21 => ?_) (fun q21 => ?_)
        · have h := h.1 q21
          refine V_aload_n C 0 dX6_arrangeFrom_52 rfl ?_
          refine V_get (k0 := 1) (Cn := RX6) (T := TX6) (N := 6) C (nsX_mem (by decide)) rfl iw_X6_arrangeFrom_X6 (by decide) rfl m_X6_arrangeFrom_f16 (ceX_71 _) rfl dX6_arrangeFrom_53 ?_
          refine V_iload_n C 1 dX6_arrangeFrom_56 rfl ?_
          refine V_iconst (v := (-1 : Int32)) C dX6_arrangeFrom_57 (by decide) ?_
          have g22 := h.1
          have h := h.2
          refine V_iast (t0 := 1) (L := 5) C (nsX_mem (by decide)) (fun _ => rfl) rfl g22 dX6_arrangeFrom_58 (fun M23 e24 => ?_)
          have h := h M23 e24
          refine V_aload_n C 0 dX6_arrangeFrom_59 rfl ?_
          refine V_iload_n C 1 dX6_arrangeFrom_60 rfl ?_
          refine V_iconst (v := (1 : Int32)) C dX6_arrangeFrom_61 (by decide) ?_
          refine V_iadd C dX6_arrangeFrom_62 ?_
          refine V_iload_n C 2 dX6_arrangeFrom_63 rfl ?_
          refine V_iload_n C 3 dX6_arrangeFrom_64 rfl ?_
          refine V_aload_n C 0 dX6_arrangeFrom_65 rfl ?_
          refine V_get (k0 := 0) (Cn := RX6) (T := TX6) (N := 6) C (nsX_mem (by decide)) rfl iw_X6_arrangeFrom_X6 (by decide) rfl m_X6_arrangeFrom_f11 (ceX_71 _) rfl dX6_arrangeFrom_66 ?_
          refine V_iload_n C 1 dX6_arrangeFrom_69 rfl ?_
          refine V_aald (t0 := 4) (L := 5) (r := (73 + x1.toNatClampNeg)) C (nsX_mem (by decide)) ((fun _ => rfl) _) rfl rfl g22 (row_at g22) dX6_arrangeFrom_70 ?_
          refine V_iload_n C 1 dX6_arrangeFrom_71 rfl ?_
          refine V_iald (t0 := 1) (L := 5) C (row_mem 73 g22 (by decide)) (row_73 g22) rfl g22 dX6_arrangeFrom_72 ?_
          refine V_mmax C m_X6_arrangeFrom_l59 m_X6_arrangeFrom_smax m_X6_arrangeFrom_imath m_X6_arrangeFrom_kmax (by show 1 ≤ 3 + (f + 1); omega) (by show 3 + 13 ≤ 64 * (3 + (f + 1)); omega) dX6_arrangeFrom_73 ?_
          refine V_iload C 4 dX6_arrangeFrom_76 rfl ?_
          refine V_callSv (rest := []) C (hrc (x1 + (1 : Int32)) x2 (if x3 < (M23.1 (73 + x1.toNatClampNeg) x1.toNatClampNeg) then (M23.1 (73 + x1.toNatClampNeg) x1.toNatClampNeg) else x3) x4 M23 _ h) (va_cwS 5 C.1.2.2.2.2 gX6_arrangeFrom_X6_arrangeFrom rfl rfl rfl (by decide +kernel) ⟨by show 3 + f + 1 ≤ 3 + (f + 1); omega, by show 8 + (6 + 11) + 64 * (3 + f) ≤ 64 * (3 + (f + 1)); omega⟩) rfl rfl (Nat.le_of_ble_eq_true rfl) dX6_arrangeFrom_78 (fun M26 h => ?_)
          refine V_iload_n C 1 dX6_arrangeFrom_81 rfl ?_
          refine V_iconst (v := (1 : Int32)) C dX6_arrangeFrom_82 (by decide) ?_
          refine V_iadd C dX6_arrangeFrom_83 ?_
          refine V_istore (lv' := [(5, .int (x1 + (1 : Int32))), (0, .ref (ad 71)), (1, .int x1), (2, .int x2), (3, .int x3), (4, .int x4)]) C dX6_arrangeFrom_84 (by decide) rfl ?_
          refine V_drop (lv' := [(0, .ref (ad 71)), (1, .int x1), (2, .int x2), (3, .int x3), (4, .int x4), (5, .int (x1 + (1 : Int32)))]) [1, 2, 3, 4, 5, 0] rfl ?_
          obtain ⟨n0, h⟩ := h
          exact L86  n0 x1 x2 x3 x4 (x1 + (1 : Int32)) M26 h 
        · have h := h.2 q21
          refine V_aload_n C 0 dX6_arrangeFrom_40 rfl ?_
          refine V_iload_n C 1 dX6_arrangeFrom_41 rfl ?_
          refine V_iconst (v := (1 : Int32)) C dX6_arrangeFrom_42 (by decide) ?_
          refine V_iadd C dX6_arrangeFrom_43 ?_
          refine V_iload_n C 2 dX6_arrangeFrom_44 rfl ?_
          refine V_iload_n C 3 dX6_arrangeFrom_45 rfl ?_
          refine V_iload C 4 dX6_arrangeFrom_46 rfl ?_
          refine V_callSv (rest := []) C (hrc (x1 + (1 : Int32)) x2 x3 x4 M16 _ h) (va_cwS 5 C.1.2.2.2.2 gX6_arrangeFrom_X6_arrangeFrom rfl rfl rfl (by decide +kernel) ⟨by show 3 + f + 1 ≤ 3 + (f + 1); omega, by show 8 + (6 + 11) + 64 * (3 + f) ≤ 64 * (3 + (f + 1)); omega⟩) rfl rfl (Nat.le_of_ble_eq_true rfl) dX6_arrangeFrom_48 (fun M29 h => ?_)
          exact V_vret C hr hlk dX6_arrangeFrom_51 h
      · have h := h.2 q20
        refine V_drop (lv' := [(0, .ref (ad 71)), (3, .int x3), (4, .int x4)]) [0, 3, 4] rfl ?_
        exact L24  x3 x4 M16 h 
  · have h := h.2 q18
    exact V_vret C hr hlk dX6_arrangeFrom_10 h
def w_X6_arrange_37  (post : Mm → Prop) (k10 : Int32 → Int32 → Mm → Prop) : Nat → Int32 → Int32 → Int32 → Mm → Prop
  | 0 => fun _ _ _ _ => False
  | n + 1 => fun v2 v3 v4 M =>
    (((M.1 71 3) ≤ v4) → (k10 v2 (v3 + 1) M)) ∧ ((¬ (M.1 71 3) ≤ v4) → ((vp_in v3 5) ∧ (w_X2_stepsOf 3 v3 v2 v4 M (fun r3 M4 => (vp_in v4 5) ∧ (∀ M7 : Mm, M7 = wI M4 (73 + v3.toNatClampNeg) (upd (M4.1 (73 + v3.toNatClampNeg)) v4.toNatClampNeg r3) → (w_X6_arrange_37  post k10 n v2 v3 (v4 + 1) M7))))))
def w_X6_arrange_10  (post : Mm → Prop)  : Nat → Int32 → Int32 → Mm → Prop
  | 0 => fun _ _ _ => False
  | n + 1 => fun v2 v3 M =>
    (((M.1 71 3) ≤ v3) → (∀ M10 : Mm, M10 = wI M 71 (upd (M.1 71) 4 (1000000 : Int32)) → (∀ M12 : Mm, M12 = wI M10 71 (upd (M10.1 71) 5 (1000000 : Int32)) → (w_X6_arrangeFrom 8 (0 : Int32) (0 : Int32) (0 : Int32) (0 : Int32) M12 (fun M15 => post M15))))) ∧ ((¬ (M.1 71 3) ≤ v3) → ((vp_in v3 5) ∧ (w_X2_aloneSteps 3 v3 v2 M (fun r18 M19 => ∀ M21 : Mm, M21 = wI M19 (73 + v3.toNatClampNeg) (upd (M19.1 (73 + v3.toNatClampNeg)) v3.toNatClampNeg r18) → (∃ n0 : Nat, w_X6_arrange_37  post (w_X6_arrange_10  post  n) n0 v2 v3 (v3 + (1 : Int32)) M21)))))
def w_X6_arrange (x1 : Int32) (M : Mm) (post : Mm → Prop) : Prop :=
  ∀ M23 : Mm, M23 = wI M 71 (upd (M.1 71) 3 (M.1 3 3)) → (∃ n0 : Nat, w_X6_arrange_10  post  n0 x1 (0 : Int32) M23)
theorem iw_X6_arrange_X6 : ∀ w ∈ u_ws RX6 TX6 6, w ∈ wsX6_arrange := by decide +kernel
theorem iw_X6_arrange_X2 : ∀ w ∈ u_ws RX2 TX2 18, w ∈ wsX6_arrange := by decide +kernel
theorem m_X6_arrange_f29 : Cond.fieldLink RX6 29 "ShameYards$Pairing" "people" "I" ∈ wsX6_arrange := by decide +kernel
theorem m_X6_arrange_f11 : Cond.fieldLink RX6 11 "ShameYards$Pairing" "has" "[[I" ∈ wsX6_arrange := by decide +kernel
theorem m_X6_arrange_c40 : Jvm.Cond.constant RX6 40 (1000000) ∈ wsX6_arrange := by decide +kernel
theorem m_X6_arrange_f41 : Cond.fieldLink RX6 41 "ShameYards$Pairing" "leastMost" "I" ∈ wsX6_arrange := by decide +kernel
theorem m_X6_arrange_f44 : Cond.fieldLink RX6 44 "ShameYards$Pairing" "leastPairs" "I" ∈ wsX6_arrange := by decide +kernel
theorem m_X6_arrange_f23 : Cond.fieldLink RX6 23 "ShameYards$House" "peopleCount" "I" ∈ wsX6_arrange := by decide +kernel
set_option maxHeartbeats 4000000 in
set_option maxRecDepth 100000 in
theorem c_X6_arrange (l : Launch) (D : va_G) (cy : Nat → ClassId) (ad : Nat → Nat) (A : Nat → Prop) (G : Gd A ad nsX)   (x1 : Int32) (M : Mm) (post : Mm → Prop) (h : w_X6_arrange x1 M post) : CV l yX6_arrange wsX6_arrange (rmL 12) D (tysC cy) A ad nsX (ceX ad cy) (ExX A ad) [.ref (ad 71), .ref (ad 3), .int x1] M post := by
  refine Met_V (cc := cX6_arrange) (maxL := 5) (ret := none) (by decide) rfl G Lo_X ExX_ok (Nat.le_of_ble_eq_true rfl) rfl ?_
  intro p e s m args below meth c C hr hlk
  have C : Cx p s m args c cX6_arrange 5 RX6 wsX6_arrange D (tysC cy) A ad nsX (ceX ad cy) (ExX A ad) := C
  have L37 : ∀ (k10 : Int32 → Int32 → Mm → Prop) (hk10 : ∀ (v2 : Int32) (v3 : Int32) (M : Mm), k10 v2 v3 M → V p l e (rmL 12) s m args below meth c (MQ below (va_Qv post (Wd D (tysC cy) ad nsX (ceX ad cy) (ExX A ad)) A) args s 0 0 A) D A ad nsX (ceX ad cy) 5 M [(0, .ref (ad 71)), (1, .ref (ad 3)), (2, .int v2), (3, .int v3)] 10 []) (n : Nat) (v2 : Int32) (v3 : Int32) (v4 : Int32) (M : Mm), w_X6_arrange_37  post k10 n v2 v3 v4 M → V p l e (rmL 12) s m args below meth c (MQ below (va_Qv post (Wd D (tysC cy) ad nsX (ceX ad cy) (ExX A ad)) A) args s 0 0 A) D A ad nsX (ceX ad cy) 5 M [(0, .ref (ad 71)), (1, .ref (ad 3)), (2, .int v2), (3, .int v3), (4, .int v4)] 37 [] := by
    intro k10 hk10 n
    induction n with
    | zero => intro v2 v3 v4 M h; exact h.elim
    | succ n ih =>
    intro v2 v3 v4 M h 
    unfold w_X6_arrange_37 at h
    refine V_iload C 4 dX6_arrange_37 rfl ?_
    refine V_aload_n C 0 dX6_arrange_39 rfl ?_
    refine V_get (k0 := 3) (Cn := RX6) (T := TX6) (N := 6) C (nsX_mem (by decide)) rfl iw_X6_arrange_X6 (by decide) rfl m_X6_arrange_f29 (ceX_71 _) rfl dX6_arrange_40 ?_
    refine V_icmp_ge C 69 dX6_arrange_43 (by decide) (fun q1 => ?_) (fun q1 => ?_)
    · have h := h.1 q1
      refine V_iinc (v := (v3 + 1)) (lv' := [(3, .int (v3 + 1)), (0, .ref (ad 71)), (1, .ref (ad 3)), (2, .int v2), (4, .int v4)]) C 3 dX6_arrange_69 rfl rfl (by decide) rfl ?_
      refine V_goto C 10 dX6_arrange_72 (by decide) ?_
      refine V_drop (lv' := [(0, .ref (ad 71)), (1, .ref (ad 3)), (2, .int v2), (3, .int (v3 + 1))]) [1, 2, 3, 0] rfl ?_
      exact hk10 v2 (v3 + 1) M h 
    · have h := h.2 q1
      refine V_aload_n C 0 dX6_arrange_46 rfl ?_
      refine V_get (k0 := 0) (Cn := RX6) (T := TX6) (N := 6) C (nsX_mem (by decide)) rfl iw_X6_arrange_X6 (by decide) rfl m_X6_arrange_f11 (ceX_71 _) rfl dX6_arrange_47 ?_
      refine V_iload_n C 3 dX6_arrange_50 rfl ?_
      have g2 := h.1
      have h := h.2
      refine V_aald (t0 := 4) (L := 5) (r := (73 + v3.toNatClampNeg)) C (nsX_mem (by decide)) ((fun _ => rfl) _) rfl rfl g2 (row_at g2) dX6_arrange_51 ?_
      refine V_iload C 4 dX6_arrange_52 rfl ?_
      refine V_aload_n C 1 dX6_arrange_54 rfl ?_
      refine V_iload_n C 3 dX6_arrange_55 rfl ?_
      refine V_iload_n C 2 dX6_arrange_56 rfl ?_
      refine V_iload C 4 dX6_arrange_57 rfl ?_
      refine V_callVi (q := (RX2, TX2, 18)) (rest := [.int v4, .ref (ad (73 + v3.toNatClampNeg))]) C (nsX_mem (by decide)) (ceX_3 _) rfl (c_X2_stepsOf l D cy ad A G 3 (by decide) v3 v2 v4 M _ h) (cwV 3 C.1.2.2.2.2 gX6_arrange_X2_stepsOf rfl rfl rfl (by decide +kernel) ⟨by decide, by decide⟩) rfl rfl (Nat.le_of_ble_eq_true rfl) dX6_arrange_59 (fun r3 M4 h => ?_)
      have g6 := h.1
      have h := h.2
      refine V_iast (t0 := 1) (L := 5) C (row_mem 73 g2 (by decide)) (row_73 g2) rfl g6 dX6_arrange_62 (fun M7 e8 => ?_)
      have h := h M7 e8
      refine V_iinc (v := (v4 + 1)) (lv' := [(4, .int (v4 + 1)), (0, .ref (ad 71)), (1, .ref (ad 3)), (2, .int v2), (3, .int v3)]) C 4 dX6_arrange_63 rfl rfl (by decide) rfl ?_
      refine V_goto C 37 dX6_arrange_66 (by decide) ?_
      refine V_drop (lv' := [(0, .ref (ad 71)), (1, .ref (ad 3)), (2, .int v2), (3, .int v3), (4, .int (v4 + 1))]) [1, 2, 3, 4, 0] rfl ?_
      exact ih v2 v3 (v4 + 1) M7 h 
  have L10 : ∀  (n : Nat) (v2 : Int32) (v3 : Int32) (M : Mm), w_X6_arrange_10  post  n v2 v3 M → V p l e (rmL 12) s m args below meth c (MQ below (va_Qv post (Wd D (tysC cy) ad nsX (ceX ad cy) (ExX A ad)) A) args s 0 0 A) D A ad nsX (ceX ad cy) 5 M [(0, .ref (ad 71)), (1, .ref (ad 3)), (2, .int v2), (3, .int v3)] 10 [] := by
    intro  n
    induction n with
    | zero => intro v2 v3 M h; exact h.elim
    | succ n ih =>
    intro v2 v3 M h 
    unfold w_X6_arrange_10 at h
    refine V_iload_n C 3 dX6_arrange_10 rfl ?_
    refine V_aload_n C 0 dX6_arrange_11 rfl ?_
    refine V_get (k0 := 3) (Cn := RX6) (T := TX6) (N := 6) C (nsX_mem (by decide)) rfl iw_X6_arrange_X6 (by decide) rfl m_X6_arrange_f29 (ceX_71 _) rfl dX6_arrange_12 ?_
    refine V_icmp_ge C 75 dX6_arrange_15 (by decide) (fun q9 => ?_) (fun q9 => ?_)
    · have h := h.1 q9
      refine V_aload_n C 0 dX6_arrange_75 rfl ?_
      refine V_ldc (v := (1000000 : Int32)) C dX6_arrange_76 m_X6_arrange_c40 ?_
      refine V_putI (k0 := 4) (Cn := RX6) (T := TX6) (N := 6) C (nsX_mem (by decide)) rfl iw_X6_arrange_X6 (by decide) rfl m_X6_arrange_f41 tyX6_ok nmX6 rfl (show _ = some FieldType.int by decide +kernel) rfl rfl (Nat.le_of_ble_eq_true rfl) (ceX_71 _) (stX71_4  _ _) dX6_arrange_78 (fun M10 e11 => ?_)
      have h := h M10 e11
      refine V_aload_n C 0 dX6_arrange_81 rfl ?_
      refine V_ldc (v := (1000000 : Int32)) C dX6_arrange_82 m_X6_arrange_c40 ?_
      refine V_putI (k0 := 5) (Cn := RX6) (T := TX6) (N := 6) C (nsX_mem (by decide)) rfl iw_X6_arrange_X6 (by decide) rfl m_X6_arrange_f44 tyX6_ok nmX6 rfl (show _ = some FieldType.int by decide +kernel) rfl rfl (Nat.le_of_ble_eq_true rfl) (ceX_71 _) (stX71_5  _ _) dX6_arrange_84 (fun M12 e13 => ?_)
      have h := h M12 e13
      refine V_aload_n C 0 dX6_arrange_87 rfl ?_
      refine V_iconst (v := (0 : Int32)) C dX6_arrange_88 (by decide) ?_
      refine V_iconst (v := (0 : Int32)) C dX6_arrange_89 (by decide) ?_
      refine V_iconst (v := (0 : Int32)) C dX6_arrange_90 (by decide) ?_
      refine V_iconst (v := (0 : Int32)) C dX6_arrange_91 (by decide) ?_
      refine V_callSv (rest := []) C (c_X6_arrangeFrom l D cy ad A G 8 (0 : Int32) (0 : Int32) (0 : Int32) (0 : Int32) M12 _ h) (va_cwS 5 C.1.2.2.2.2 gX6_arrange_X6_arrangeFrom rfl rfl rfl (by decide +kernel) ⟨by decide, by decide⟩) rfl rfl (Nat.le_of_ble_eq_true rfl) dX6_arrange_92 (fun M15 h => ?_)
      exact V_vret C hr hlk dX6_arrange_95 h
    · have h := h.2 q9
      refine V_aload_n C 0 dX6_arrange_18 rfl ?_
      refine V_get (k0 := 0) (Cn := RX6) (T := TX6) (N := 6) C (nsX_mem (by decide)) rfl iw_X6_arrange_X6 (by decide) rfl m_X6_arrange_f11 (ceX_71 _) rfl dX6_arrange_19 ?_
      refine V_iload_n C 3 dX6_arrange_22 rfl ?_
      have g17 := h.1
      have h := h.2
      refine V_aald (t0 := 4) (L := 5) (r := (73 + v3.toNatClampNeg)) C (nsX_mem (by decide)) ((fun _ => rfl) _) rfl rfl g17 (row_at g17) dX6_arrange_23 ?_
      refine V_iload_n C 3 dX6_arrange_24 rfl ?_
      refine V_aload_n C 1 dX6_arrange_25 rfl ?_
      refine V_iload_n C 3 dX6_arrange_26 rfl ?_
      refine V_iload_n C 2 dX6_arrange_27 rfl ?_
      refine V_callVi (q := (RX2, TX2, 18)) (rest := [.int v3, .ref (ad (73 + v3.toNatClampNeg))]) C (nsX_mem (by decide)) (ceX_3 _) rfl (c_X2_aloneSteps l D cy ad A G 3 (by decide) v3 v2 M _ h) (cwV 2 C.1.2.2.2.2 gX6_arrange_X2_aloneSteps rfl rfl rfl (by decide +kernel) ⟨by decide, by decide⟩) rfl rfl (Nat.le_of_ble_eq_true rfl) dX6_arrange_28 (fun r18 M19 h => ?_)
      refine V_iast (t0 := 1) (L := 5) C (row_mem 73 g17 (by decide)) (row_73 g17) rfl g17 dX6_arrange_31 (fun M21 e22 => ?_)
      have h := h M21 e22
      refine V_iload_n C 3 dX6_arrange_32 rfl ?_
      refine V_iconst (v := (1 : Int32)) C dX6_arrange_33 (by decide) ?_
      refine V_iadd C dX6_arrange_34 ?_
      refine V_istore (lv' := [(4, .int (v3 + (1 : Int32))), (0, .ref (ad 71)), (1, .ref (ad 3)), (2, .int v2), (3, .int v3)]) C dX6_arrange_35 (by decide) rfl ?_
      refine V_drop (lv' := [(0, .ref (ad 71)), (1, .ref (ad 3)), (2, .int v2), (3, .int v3), (4, .int (v3 + (1 : Int32)))]) [1, 2, 3, 4, 0] rfl ?_
      obtain ⟨n0, h⟩ := h
      exact L37 (w_X6_arrange_10  post  n) ih n0 v2 v3 (v3 + (1 : Int32)) M21 h 
  unfold w_X6_arrange at h
  refine V_aload_n C 0 dX6_arrange_0 rfl ?_
  refine V_aload_n C 1 dX6_arrange_1 rfl ?_
  refine V_get (k0 := 3) (Cn := RX2) (T := TX2) (N := 18) C (nsX_mem (by decide)) rfl iw_X6_arrange_X2 (by decide) rfl m_X6_arrange_f23 (ceX_3 _) rfl dX6_arrange_2 ?_
  refine V_putI (k0 := 3) (Cn := RX6) (T := TX6) (N := 6) C (nsX_mem (by decide)) rfl iw_X6_arrange_X6 (by decide) rfl m_X6_arrange_f29 tyX6_ok nmX6 rfl (show _ = some FieldType.int by decide +kernel) rfl rfl (Nat.le_of_ble_eq_true rfl) (ceX_71 _) (stX71_3  _ _) dX6_arrange_5 (fun M23 e24 => ?_)
  have h := h M23 e24
  refine V_iconst (v := (0 : Int32)) C dX6_arrange_8 (by decide) ?_
  refine V_istore_n (lv' := [(3, .int (0 : Int32)), (0, .ref (ad 71)), (1, .ref (ad 3)), (2, .int x1)]) C dX6_arrange_9 rfl (by decide) rfl ?_
  refine V_drop (lv' := [(0, .ref (ad 71)), (1, .ref (ad 3)), (2, .int x1), (3, .int (0 : Int32))]) [1, 2, 3, 0] rfl ?_
  obtain ⟨n0, h⟩ := h
  exact L10  n0 x1 (0 : Int32) M23 h 
def w_X6_partnerOf (x1 : Int32) (M : Mm) (post : Int32 → Mm → Prop) : Prop :=
  w_X2_hasPerson 3 x1 M (fun r1 M2 => ((r1 = 0) → (post (-1 : Int32) M2)) ∧ ((¬ r1 = 0) → ((vp_in x1 5) ∧ (post (M2.1 79 x1.toNatClampNeg) M2))))
theorem iw_X6_partnerOf_X6 : ∀ w ∈ u_ws RX6 TX6 6, w ∈ wsX6_partnerOf := by decide +kernel
theorem m_X6_partnerOf_f20 : Cond.fieldLink RX6 20 "ShameYards$Pairing" "best" "[I" ∈ wsX6_partnerOf := by decide +kernel
set_option maxHeartbeats 4000000 in
set_option maxRecDepth 100000 in
theorem c_X6_partnerOf (l : Launch) (D : va_G) (cy : Nat → ClassId) (ad : Nat → Nat) (A : Nat → Prop) (G : Gd A ad nsX)   (x1 : Int32) (M : Mm) (post : Int32 → Mm → Prop) (h : w_X6_partnerOf x1 M post) : CI l yX6_partnerOf wsX6_partnerOf (rmL 3) D (tysC cy) A ad nsX (ceX ad cy) (ExX A ad) [.ref (ad 71), .ref (ad 3), .int x1] M post := by
  refine Met_V (cc := cX6_partnerOf) (maxL := 3) (ret := (some .int)) (by decide) rfl G Lo_X ExX_ok (Nat.le_of_ble_eq_true rfl) rfl ?_
  intro p e s m args below meth c C hr hlk
  have C : Cx p s m args c cX6_partnerOf 3 RX6 wsX6_partnerOf D (tysC cy) A ad nsX (ceX ad cy) (ExX A ad) := C
  unfold w_X6_partnerOf at h
  refine V_aload_n C 1 dX6_partnerOf_0 rfl ?_
  refine V_iload_n C 2 dX6_partnerOf_1 rfl ?_
  refine V_callVi (q := (RX2, TX2, 18)) (rest := []) C (nsX_mem (by decide)) (ceX_3 _) rfl (c_X2_hasPerson l D cy ad A G 3 (by decide) x1 M _ h) (cwV 1 C.1.2.2.2.2 gX6_partnerOf_X2_hasPerson rfl rfl rfl (by decide +kernel) ⟨by decide, by decide⟩) rfl rfl (Nat.le_of_ble_eq_true rfl) dX6_partnerOf_2 (fun r1 M2 h => ?_)
  obtain ⟨z3, h⟩ := h
  refine V_if_eq C 17 dX6_partnerOf_5 (by decide) (fun q4 => ?_) (fun q4 => ?_)
  · have h := h.1 q4
    refine V_iconst (v := (-1 : Int32)) C dX6_partnerOf_17 (by decide) ?_
    exact V_iret C hr hlk dX6_partnerOf_18 h
  · have h := h.2 q4
    refine V_aload_n C 0 dX6_partnerOf_8 rfl ?_
    refine V_get (k0 := 2) (Cn := RX6) (T := TX6) (N := 6) C (nsX_mem (by decide)) rfl iw_X6_partnerOf_X6 (by decide) rfl m_X6_partnerOf_f20 (ceX_71 _) rfl dX6_partnerOf_9 ?_
    refine V_iload_n C 2 dX6_partnerOf_12 rfl ?_
    have g5 := h.1
    have h := h.2
    refine V_iald (t0 := 1) (L := 5) C (nsX_mem (by decide)) (fun _ => rfl) rfl g5 dX6_partnerOf_13 ?_
    refine V_goto C 18 dX6_partnerOf_14 (by decide) ?_
    exact V_iret C hr hlk dX6_partnerOf_18 h
