def w_J7_fill_53178_5 (an : Nat) (post : Mm → Prop)  : Nat → Int32 → Int32 → Int32 → Mm → Prop
  | 0 => fun _ _ _ _ => False
  | n + 1 => fun v1 v2 v3 M =>
    ((v3 ≤ v2) → (post M)) ∧ ((¬ v3 ≤ v2) → ((vp_in v2 5) ∧ (∀ M3 : Mm, M3 = wI M an (upd (M.1 an) v2.toNatClampNeg v1) → (w_J7_fill_53178_5 an post  n v1 (v2 + 1) v3 M3))))
def w_J7_fill_53178 (an : Nat) (x1 : Int32) (M : Mm) (post : Mm → Prop) : Prop :=
  ∃ n0 : Nat, w_J7_fill_53178_5 an post  n0 x1 (0 : Int32) (5 : Int32) M
set_option maxHeartbeats 4000000 in
set_option maxRecDepth 100000 in
theorem c_J7_fill_53178 (l : Launch) (D : va_G) (cy : Nat → ClassId) (ad : Nat → Nat) (A : Nat → Prop) (G : Gd A ad nsX) (an : Nat) (m_an : an ∈ nsX) (c_an : ∀ M0 : Mm, ceX ad cy M0 an = .inl (cy 1, 5, .inl (M0.1 an))) (x1 : Int32) (M : Mm) (post : Mm → Prop) (h : w_J7_fill_53178 an x1 M post) : CV l yJ7_fill_53178 wsJ7_fill_53178 (rmL 2) D (tysC cy) A ad nsX (ceX ad cy) (ExX A ad) [.ref (ad an), .int x1] M post := by
  refine Met_V (cc := cJ7_fill_53178) (maxL := 4) (ret := none) (by decide) rfl G Lo_X ExX_ok (Nat.le_of_ble_eq_true rfl) rfl ?_
  intro p e s m args below meth c C hr hlk
  have C : Cx p s m args c cJ7_fill_53178 4 RJ7 wsJ7_fill_53178 D (tysC cy) A ad nsX (ceX ad cy) (ExX A ad) := C
  have L5 : ∀  (n : Nat) (v1 : Int32) (v2 : Int32) (v3 : Int32) (M : Mm), w_J7_fill_53178_5 an post  n v1 v2 v3 M → V p l e (rmL 2) s m args below meth c (MQ below (va_Qv post (Wd D (tysC cy) ad nsX (ceX ad cy) (ExX A ad)) A) args s 0 0 A) D A ad nsX (ceX ad cy) 4 M [(0, .ref (ad an)), (1, .int v1), (2, .int v2), (3, .int v3)] 5 [] := by
    intro  n
    induction n with
    | zero => intro v1 v2 v3 M h; exact h.elim
    | succ n ih =>
    intro v1 v2 v3 M h 
    unfold w_J7_fill_53178_5 at h
    refine V_iload_n C 2 dJ7_fill_53178_5 rfl ?_
    refine V_iload_n C 3 dJ7_fill_53178_6 rfl ?_
    refine V_icmp_ge C 20 dJ7_fill_53178_7 (by decide) (fun q1 => ?_) (fun q1 => ?_)
    · have h := h.1 q1
      exact V_vret C hr hlk dJ7_fill_53178_20 h
    · have h := h.2 q1
      refine V_aload_n C 0 dJ7_fill_53178_10 rfl ?_
      refine V_iload_n C 2 dJ7_fill_53178_11 rfl ?_
      refine V_iload_n C 1 dJ7_fill_53178_12 rfl ?_
      have g2 := h.1
      have h := h.2
      refine V_iast (t0 := 1) (L := 5) C m_an c_an rfl g2 dJ7_fill_53178_13 (fun M3 e4 => ?_)
      have h := h M3 e4
      refine V_iinc (v := (v2 + 1)) (lv' := [(2, .int (v2 + 1)), (0, .ref (ad an)), (1, .int v1), (3, .int v3)]) C 2 dJ7_fill_53178_14 rfl rfl (by decide) rfl ?_
      refine V_goto C 5 dJ7_fill_53178_17 (by decide) ?_
      refine V_drop (lv' := [(0, .ref (ad an)), (1, .int v1), (2, .int (v2 + 1)), (3, .int v3)]) [1, 2, 0, 3] rfl ?_
      exact ih v1 (v2 + 1) v3 M3 h 
  unfold w_J7_fill_53178 at h
  refine V_iconst (v := (0 : Int32)) C dJ7_fill_53178_0 (by decide) ?_
  refine V_istore_n (lv' := [(2, .int (0 : Int32)), (0, .ref (ad an)), (1, .int x1)]) C dJ7_fill_53178_1 rfl (by decide) rfl ?_
  refine V_aload_n C 1 dJ7_fill_53178_2 rfl ?_
  refine V_alen (t0 := 1) (L := 5) (v := (5 : Int32)) C m_an (c_an _) rfl rfl dJ7_fill_53178_3 ?_
  refine V_istore_n (lv' := [(3, .int (5 : Int32)), (2, .int (0 : Int32)), (0, .ref (ad an)), (1, .int x1)]) C dJ7_fill_53178_4 rfl (by decide) rfl ?_
  refine V_drop (lv' := [(0, .ref (ad an)), (1, .int x1), (2, .int (0 : Int32)), (3, .int (5 : Int32))]) [2, 3, 1, 0] rfl ?_
  obtain ⟨n0, h⟩ := h
  exact L5  n0 x1 (0 : Int32) (5 : Int32) M h 
def w_J7_fill_d0a16_6 (an : Nat) (post : Mm → Prop)  : Nat → Int64 → Int32 → Int32 → Mm → Prop
  | 0 => fun _ _ _ _ => False
  | n + 1 => fun v1 v3 v4 M =>
    ((v4 ≤ v3) → (post M)) ∧ ((¬ v4 ≤ v3) → ((vp_in v3 5) ∧ (∀ M3 : Mm, M3 = wJ M an (vp_updL (M.2 an) v3.toNatClampNeg v1) → (w_J7_fill_d0a16_6 an post  n v1 (v3 + 1) v4 M3))))
def w_J7_fill_d0a16 (an : Nat) (x1 : Int64) (M : Mm) (post : Mm → Prop) : Prop :=
  ∃ n0 : Nat, w_J7_fill_d0a16_6 an post  n0 x1 (0 : Int32) (5 : Int32) M
set_option maxHeartbeats 4000000 in
set_option maxRecDepth 100000 in
theorem c_J7_fill_d0a16 (l : Launch) (D : va_G) (cy : Nat → ClassId) (ad : Nat → Nat) (A : Nat → Prop) (G : Gd A ad nsX) (an : Nat) (m_an : an ∈ nsX) (c_an : ∀ M0 : Mm, ceX ad cy M0 an = .inl (cy 2, 5, .inr (.inl (M0.2 an)))) (x1 : Int64) (M : Mm) (post : Mm → Prop) (h : w_J7_fill_d0a16 an x1 M post) : CV l yJ7_fill_d0a16 wsJ7_fill_d0a16 (rmL 2) D (tysC cy) A ad nsX (ceX ad cy) (ExX A ad) [.ref (ad an), .long x1] M post := by
  refine Met_V (cc := cJ7_fill_d0a16) (maxL := 5) (ret := none) (by decide) rfl G Lo_X ExX_ok (Nat.le_of_ble_eq_true rfl) rfl ?_
  intro p e s m args below meth c C hr hlk
  have C : Cx p s m args c cJ7_fill_d0a16 5 RJ7 wsJ7_fill_d0a16 D (tysC cy) A ad nsX (ceX ad cy) (ExX A ad) := C
  have L6 : ∀  (n : Nat) (v1 : Int64) (v3 : Int32) (v4 : Int32) (M : Mm), w_J7_fill_d0a16_6 an post  n v1 v3 v4 M → V p l e (rmL 2) s m args below meth c (MQ below (va_Qv post (Wd D (tysC cy) ad nsX (ceX ad cy) (ExX A ad)) A) args s 0 0 A) D A ad nsX (ceX ad cy) 5 M [(0, .ref (ad an)), (1, .long v1), (3, .int v3), (4, .int v4)] 6 [] := by
    intro  n
    induction n with
    | zero => intro v1 v3 v4 M h; exact h.elim
    | succ n ih =>
    intro v1 v3 v4 M h 
    unfold w_J7_fill_d0a16_6 at h
    refine V_iload_n C 2 dJ7_fill_d0a16_6 rfl ?_
    refine V_iload C 3 dJ7_fill_d0a16_7 rfl ?_
    refine V_icmp_ge C 22 dJ7_fill_d0a16_9 (by decide) (fun q1 => ?_) (fun q1 => ?_)
    · have h := h.1 q1
      exact V_vret C hr hlk dJ7_fill_d0a16_22 h
    · have h := h.2 q1
      refine V_aload_n C 0 dJ7_fill_d0a16_12 rfl ?_
      refine V_iload_n C 2 dJ7_fill_d0a16_13 rfl ?_
      refine V_lload_n C 1 dJ7_fill_d0a16_14 rfl ?_
      have g2 := h.1
      have h := h.2
      refine V_last (t0 := 2) (L := 5) C m_an c_an rfl g2 dJ7_fill_d0a16_15 (fun M3 e4 => ?_)
      have h := h M3 e4
      refine V_iinc (v := (v3 + 1)) (lv' := [(3, .int (v3 + 1)), (0, .ref (ad an)), (1, .long v1), (4, .int v4)]) C 2 dJ7_fill_d0a16_16 rfl rfl (by decide) rfl ?_
      refine V_goto C 6 dJ7_fill_d0a16_19 (by decide) ?_
      refine V_drop (lv' := [(0, .ref (ad an)), (1, .long v1), (3, .int (v3 + 1)), (4, .int v4)]) [1, 2, 0, 3] rfl ?_
      exact ih v1 (v3 + 1) v4 M3 h 
  unfold w_J7_fill_d0a16 at h
  refine V_iconst (v := (0 : Int32)) C dJ7_fill_d0a16_0 (by decide) ?_
  refine V_istore_n (lv' := [(3, .int (0 : Int32)), (0, .ref (ad an)), (1, .long x1)]) C dJ7_fill_d0a16_1 rfl (by decide) rfl ?_
  refine V_aload_n C 1 dJ7_fill_d0a16_2 rfl ?_
  refine V_alen (t0 := 2) (L := 5) (v := (5 : Int32)) C m_an (c_an _) rfl rfl dJ7_fill_d0a16_3 ?_
  refine V_istore (lv' := [(4, .int (5 : Int32)), (3, .int (0 : Int32)), (0, .ref (ad an)), (1, .long x1)]) C dJ7_fill_d0a16_4 (by decide) rfl ?_
  refine V_drop (lv' := [(0, .ref (ad an)), (1, .long x1), (3, .int (0 : Int32)), (4, .int (5 : Int32))]) [2, 3, 1, 0] rfl ?_
  obtain ⟨n0, h⟩ := h
  exact L6  n0 x1 (0 : Int32) (5 : Int32) M h 
def w_X9_shorten (x1 : Int32) (x2 : Int32) (x3 : Int32) (M : Mm) (post : Mm → Prop) : Prop :=
  (vp_in x1 5) ∧ ((vp_in x2 5) ∧ (∀ M3 : Mm, M3 = wI M 62 (upd (M.1 62) x1.toNatClampNeg (if ((M.1 62 x2.toNatClampNeg) + x3) < (M.1 62 x1.toNatClampNeg) then ((M.1 62 x2.toNatClampNeg) + x3) else (M.1 62 x1.toNatClampNeg))) → (∀ M5 : Mm, M5 = wI M3 62 (upd (M3.1 62) x2.toNatClampNeg (if ((M3.1 62 x1.toNatClampNeg) + x3) < (M3.1 62 x2.toNatClampNeg) then ((M3.1 62 x1.toNatClampNeg) + x3) else (M3.1 62 x2.toNatClampNeg))) → (post M5))))
theorem iw_X9_shorten_X9 : ∀ w ∈ u_ws RX9 TX9 6, w ∈ wsX9_shorten := by decide +kernel
theorem m_X9_shorten_f15 : Cond.fieldLink RX9 15 "ShameYards$Ways" "reach" "[I" ∈ wsX9_shorten := by decide +kernel
theorem m_X9_shorten_l62 : Cond.methodLink RX9 62 Lib.Math.min.name ∈ wsX9_shorten := by decide +kernel
theorem m_X9_shorten_smin : Cond.static Lib.Math.min.name ∈ wsX9_shorten := by decide +kernel
theorem m_X9_shorten_imath : Cond.initialized "java/lang/Math" ∈ wsX9_shorten := by decide +kernel
theorem m_X9_shorten_kmin : Cond.code Lib.Math.min.name Lib.Math.min.code 2 (some .int) ∈ wsX9_shorten := by decide +kernel
set_option maxHeartbeats 4000000 in
set_option maxRecDepth 100000 in
theorem c_X9_shorten (l : Launch) (D : va_G) (cy : Nat → ClassId) (ad : Nat → Nat) (A : Nat → Prop) (G : Gd A ad nsX)   (x1 : Int32) (x2 : Int32) (x3 : Int32) (M : Mm) (post : Mm → Prop) (h : w_X9_shorten x1 x2 x3 M post) : CV l yX9_shorten wsX9_shorten (rmL 2) D (tysC cy) A ad nsX (ceX ad cy) (ExX A ad) [.ref (ad 60), .int x1, .int x2, .int x3] M post := by
  refine Met_V (cc := cX9_shorten) (maxL := 4) (ret := none) (by decide) rfl G Lo_X ExX_ok (Nat.le_of_ble_eq_true rfl) rfl ?_
  intro p e s m args below meth c C hr hlk
  have C : Cx p s m args c cX9_shorten 4 RX9 wsX9_shorten D (tysC cy) A ad nsX (ceX ad cy) (ExX A ad) := C
  unfold w_X9_shorten at h
  refine V_aload_n C 0 dX9_shorten_0 rfl ?_
  refine V_get (k0 := 1) (Cn := RX9) (T := TX9) (N := 6) C (nsX_mem (by decide)) rfl iw_X9_shorten_X9 (by decide) rfl m_X9_shorten_f15 (ceX_60 _) rfl dX9_shorten_1 ?_
  refine V_iload_n C 1 dX9_shorten_4 rfl ?_
  refine V_aload_n C 0 dX9_shorten_5 rfl ?_
  refine V_get (k0 := 1) (Cn := RX9) (T := TX9) (N := 6) C (nsX_mem (by decide)) rfl iw_X9_shorten_X9 (by decide) rfl m_X9_shorten_f15 (ceX_60 _) rfl dX9_shorten_6 ?_
  refine V_iload_n C 1 dX9_shorten_9 rfl ?_
  have g1 := h.1
  have h := h.2
  refine V_iald (t0 := 1) (L := 5) C (nsX_mem (by decide)) (fun _ => rfl) rfl g1 dX9_shorten_10 ?_
  refine V_aload_n C 0 dX9_shorten_11 rfl ?_
  refine V_get (k0 := 1) (Cn := RX9) (T := TX9) (N := 6) C (nsX_mem (by decide)) rfl iw_X9_shorten_X9 (by decide) rfl m_X9_shorten_f15 (ceX_60 _) rfl dX9_shorten_12 ?_
  refine V_iload_n C 2 dX9_shorten_15 rfl ?_
  have g2 := h.1
  have h := h.2
  refine V_iald (t0 := 1) (L := 5) C (nsX_mem (by decide)) (fun _ => rfl) rfl g2 dX9_shorten_16 ?_
  refine V_iload_n C 3 dX9_shorten_17 rfl ?_
  refine V_iadd C dX9_shorten_18 ?_
  refine V_mmin C m_X9_shorten_l62 m_X9_shorten_smin m_X9_shorten_imath m_X9_shorten_kmin (by decide) (Nat.le_of_ble_eq_true rfl) dX9_shorten_19 ?_
  refine V_iast (t0 := 1) (L := 5) C (nsX_mem (by decide)) (fun _ => rfl) rfl g1 dX9_shorten_22 (fun M3 e4 => ?_)
  have h := h M3 e4
  refine V_aload_n C 0 dX9_shorten_23 rfl ?_
  refine V_get (k0 := 1) (Cn := RX9) (T := TX9) (N := 6) C (nsX_mem (by decide)) rfl iw_X9_shorten_X9 (by decide) rfl m_X9_shorten_f15 (ceX_60 _) rfl dX9_shorten_24 ?_
  refine V_iload_n C 2 dX9_shorten_27 rfl ?_
  refine V_aload_n C 0 dX9_shorten_28 rfl ?_
  refine V_get (k0 := 1) (Cn := RX9) (T := TX9) (N := 6) C (nsX_mem (by decide)) rfl iw_X9_shorten_X9 (by decide) rfl m_X9_shorten_f15 (ceX_60 _) rfl dX9_shorten_29 ?_
  refine V_iload_n C 2 dX9_shorten_32 rfl ?_
  refine V_iald (t0 := 1) (L := 5) C (nsX_mem (by decide)) (fun _ => rfl) rfl g2 dX9_shorten_33 ?_
  refine V_aload_n C 0 dX9_shorten_34 rfl ?_
  refine V_get (k0 := 1) (Cn := RX9) (T := TX9) (N := 6) C (nsX_mem (by decide)) rfl iw_X9_shorten_X9 (by decide) rfl m_X9_shorten_f15 (ceX_60 _) rfl dX9_shorten_35 ?_
  refine V_iload_n C 1 dX9_shorten_38 rfl ?_
  refine V_iald (t0 := 1) (L := 5) C (nsX_mem (by decide)) (fun _ => rfl) rfl g1 dX9_shorten_39 ?_
  refine V_iload_n C 3 dX9_shorten_40 rfl ?_
  refine V_iadd C dX9_shorten_41 ?_
  refine V_mmin C m_X9_shorten_l62 m_X9_shorten_smin m_X9_shorten_imath m_X9_shorten_kmin (by decide) (Nat.le_of_ble_eq_true rfl) dX9_shorten_42 ?_
  refine V_iast (t0 := 1) (L := 5) C (nsX_mem (by decide)) (fun _ => rfl) rfl g2 dX9_shorten_45 (fun M5 e6 => ?_)
  have h := h M5 e6
  exact V_vret C hr hlk dX9_shorten_46 h
def w_X9_measure_63  (post : Mm → Prop) (k51 : Int32 → Mm → Prop) : Nat → Int32 → Int32 → Mm → Prop
  | 0 => fun _ _ _ => False
  | n + 1 => fun v4 v5 M =>
    (((M.1 3 2) ≤ v5) → (k51 (v4 + 1) M)) ∧ ((¬ (M.1 3 2) ≤ v5) → ((vp_in v5 7) ∧ (w_X9_shorten (M.1 10 v5.toNatClampNeg) (M.1 11 v5.toNatClampNeg) (M.1 61 v5.toNatClampNeg) M (fun M4 => w_X9_measure_63  post k51 n v4 (v5 + 1) M4))))
def w_X9_measure_51  (post : Mm → Prop)  : Nat → Int32 → Mm → Prop
  | 0 => fun _ _ => False
  | n + 1 => fun v4 M =>
    (((M.1 3 1) ≤ v4) → (post M)) ∧ ((¬ (M.1 3 1) ≤ v4) → (∃ n0 : Nat, w_X9_measure_63  post (w_X9_measure_51  post  n) n0 v4 (0 : Int32) M))
def w_X9_measure_3  (post : Mm → Prop)  : Nat → Int32 → Int32 → Int32 → Mm → Prop
  | 0 => fun _ _ _ _ => False
  | n + 1 => fun v2 v3 v4 M =>
    (((M.1 3 2) ≤ v4) → (w_J7_fill_53178 62 (1000000 : Int32) M (fun M9 => (vp_in v3 5) ∧ (∀ M12 : Mm, M12 = wI M9 62 (upd (M9.1 62) v3.toNatClampNeg (0 : Int32)) → (∃ n0 : Nat, w_X9_measure_51  post  n0 (1 : Int32) M12))))) ∧ ((¬ (M.1 3 2) ≤ v4) → (w_X2_aloneSteps 3 v2 v4 M (fun r14 M15 => (vp_in v4 7) ∧ (∀ M18 : Mm, M18 = wI M15 61 (upd (M15.1 61) v4.toNatClampNeg r14) → (w_X9_measure_3  post  n v2 v3 (v4 + 1) M18)))))
def w_X9_measure (x1 : Int32) (x2 : Int32) (M : Mm) (post : Mm → Prop) : Prop :=
  ∃ n0 : Nat, w_X9_measure_3  post  n0 x1 x2 (0 : Int32) M
theorem iw_X9_measure_X2 : ∀ w ∈ u_ws RX2 TX2 18, w ∈ wsX9_measure := by decide +kernel
theorem iw_X9_measure_X9 : ∀ w ∈ u_ws RX9 TX9 6, w ∈ wsX9_measure := by decide +kernel
theorem m_X9_measure_f34 : Cond.fieldLink RX9 34 "ShameYards$House" "passageCount" "I" ∈ wsX9_measure := by decide +kernel
theorem m_X9_measure_f52 : Cond.fieldLink RX9 52 "ShameYards$House" "oneEnd" "[I" ∈ wsX9_measure := by decide +kernel
theorem m_X9_measure_f55 : Cond.fieldLink RX9 55 "ShameYards$House" "otherEnd" "[I" ∈ wsX9_measure := by decide +kernel
theorem m_X9_measure_f9 : Cond.fieldLink RX9 9 "ShameYards$Ways" "tolls" "[I" ∈ wsX9_measure := by decide +kernel
theorem m_X9_measure_f49 : Cond.fieldLink RX9 49 "ShameYards$House" "roomCount" "I" ∈ wsX9_measure := by decide +kernel
theorem m_X9_measure_f15 : Cond.fieldLink RX9 15 "ShameYards$Ways" "reach" "[I" ∈ wsX9_measure := by decide +kernel
theorem m_X9_measure_c29 : Jvm.Cond.constant RX9 29 (1000000) ∈ wsX9_measure := by decide +kernel
set_option maxHeartbeats 4000000 in
set_option maxRecDepth 100000 in
theorem c_X9_measure (l : Launch) (D : va_G) (cy : Nat → ClassId) (ad : Nat → Nat) (A : Nat → Prop) (G : Gd A ad nsX)   (x1 : Int32) (x2 : Int32) (M : Mm) (post : Mm → Prop) (h : w_X9_measure x1 x2 M post) : CV l yX9_measure wsX9_measure (rmL 5) D (tysC cy) A ad nsX (ceX ad cy) (ExX A ad) [.ref (ad 60), .ref (ad 3), .int x1, .int x2] M post := by
  refine Met_V (cc := cX9_measure) (maxL := 6) (ret := none) (by decide) rfl G Lo_X ExX_ok (Nat.le_of_ble_eq_true rfl) rfl ?_
  intro p e s m args below meth c C hr hlk
  have C : Cx p s m args c cX9_measure 6 RX9 wsX9_measure D (tysC cy) A ad nsX (ceX ad cy) (ExX A ad) := C
  have L63 : ∀ (k51 : Int32 → Mm → Prop) (hk51 : ∀ (v4 : Int32) (M : Mm), k51 v4 M → V p l e (rmL 5) s m args below meth c (MQ below (va_Qv post (Wd D (tysC cy) ad nsX (ceX ad cy) (ExX A ad)) A) args s 0 0 A) D A ad nsX (ceX ad cy) 6 M [(0, .ref (ad 60)), (1, .ref (ad 3)), (4, .int v4)] 51 []) (n : Nat) (v4 : Int32) (v5 : Int32) (M : Mm), w_X9_measure_63  post k51 n v4 v5 M → V p l e (rmL 5) s m args below meth c (MQ below (va_Qv post (Wd D (tysC cy) ad nsX (ceX ad cy) (ExX A ad)) A) args s 0 0 A) D A ad nsX (ceX ad cy) 6 M [(0, .ref (ad 60)), (1, .ref (ad 3)), (4, .int v4), (5, .int v5)] 63 [] := by
    intro k51 hk51 n
    induction n with
    | zero => intro v4 v5 M h; exact h.elim
    | succ n ih =>
    intro v4 v5 M h 
    unfold w_X9_measure_63 at h
    refine V_iload C 3 dX9_measure_63 rfl ?_
    refine V_aload_n C 1 dX9_measure_65 rfl ?_
    refine V_get (k0 := 2) (Cn := RX2) (T := TX2) (N := 18) C (nsX_mem (by decide)) rfl iw_X9_measure_X2 (by decide) rfl m_X9_measure_f34 (ceX_3 _) rfl dX9_measure_66 ?_
    refine V_icmp_ge C 103 dX9_measure_69 (by decide) (fun q1 => ?_) (fun q1 => ?_)
    · have h := h.1 q1
      refine V_iinc (v := (v4 + 1)) (lv' := [(4, .int (v4 + 1)), (0, .ref (ad 60)), (1, .ref (ad 3)), (5, .int v5)]) C 2 dX9_measure_103 rfl rfl (by decide) rfl ?_
      refine V_goto C 51 dX9_measure_106 (by decide) ?_
      refine V_drop (lv' := [(0, .ref (ad 60)), (1, .ref (ad 3)), (4, .int (v4 + 1))]) [1, 2, 0] rfl ?_
      exact hk51 (v4 + 1) M h 
    · have h := h.2 q1
      refine V_aload_n C 0 dX9_measure_72 rfl ?_
      refine V_aload_n C 1 dX9_measure_73 rfl ?_
      refine V_get (k0 := 4) (Cn := RX2) (T := TX2) (N := 18) C (nsX_mem (by decide)) rfl iw_X9_measure_X2 (by decide) rfl m_X9_measure_f52 (ceX_3 _) rfl dX9_measure_74 ?_
      refine V_iload C 3 dX9_measure_77 rfl ?_
      have g2 := h.1
      have h := h.2
      refine V_iald (t0 := 1) (L := 7) C (nsX_mem (by decide)) (fun _ => rfl) rfl g2 dX9_measure_79 ?_
      refine V_aload_n C 1 dX9_measure_80 rfl ?_
      refine V_get (k0 := 5) (Cn := RX2) (T := TX2) (N := 18) C (nsX_mem (by decide)) rfl iw_X9_measure_X2 (by decide) rfl m_X9_measure_f55 (ceX_3 _) rfl dX9_measure_81 ?_
      refine V_iload C 3 dX9_measure_84 rfl ?_
      refine V_iald (t0 := 1) (L := 7) C (nsX_mem (by decide)) (fun _ => rfl) rfl g2 dX9_measure_86 ?_
      refine V_aload_n C 0 dX9_measure_87 rfl ?_
      refine V_get (k0 := 0) (Cn := RX9) (T := TX9) (N := 6) C (nsX_mem (by decide)) rfl iw_X9_measure_X9 (by decide) rfl m_X9_measure_f9 (ceX_60 _) rfl dX9_measure_88 ?_
      refine V_iload C 3 dX9_measure_91 rfl ?_
      refine V_iald (t0 := 1) (L := 7) C (nsX_mem (by decide)) (fun _ => rfl) rfl g2 dX9_measure_93 ?_
      refine V_callVv (q := (RX9, TX9, 6)) (rest := []) C (nsX_mem (by decide)) (ceX_60 _) rfl (c_X9_shorten l D cy ad A G (M.1 10 v5.toNatClampNeg) (M.1 11 v5.toNatClampNeg) (M.1 61 v5.toNatClampNeg) M _ h) (cwV 3 C.1.2.2.2.2 gX9_measure_X9_shorten rfl rfl rfl (by decide +kernel) ⟨by decide, by decide⟩) rfl rfl (Nat.le_of_ble_eq_true rfl) dX9_measure_94 (fun M4 h => ?_)
      refine V_iinc (v := (v5 + 1)) (lv' := [(5, .int (v5 + 1)), (0, .ref (ad 60)), (1, .ref (ad 3)), (4, .int v4)]) C 3 dX9_measure_97 rfl rfl (by decide) rfl ?_
      refine V_goto C 63 dX9_measure_100 (by decide) ?_
      refine V_drop (lv' := [(0, .ref (ad 60)), (1, .ref (ad 3)), (4, .int v4), (5, .int (v5 + 1))]) [1, 2, 3, 0] rfl ?_
      exact ih v4 (v5 + 1) M4 h 
  have L51 : ∀  (n : Nat) (v4 : Int32) (M : Mm), w_X9_measure_51  post  n v4 M → V p l e (rmL 5) s m args below meth c (MQ below (va_Qv post (Wd D (tysC cy) ad nsX (ceX ad cy) (ExX A ad)) A) args s 0 0 A) D A ad nsX (ceX ad cy) 6 M [(0, .ref (ad 60)), (1, .ref (ad 3)), (4, .int v4)] 51 [] := by
    intro  n
    induction n with
    | zero => intro v4 M h; exact h.elim
    | succ n ih =>
    intro v4 M h 
    unfold w_X9_measure_51 at h
    refine V_iload C 2 dX9_measure_51 rfl ?_
    refine V_aload_n C 1 dX9_measure_53 rfl ?_
    refine V_get (k0 := 1) (Cn := RX2) (T := TX2) (N := 18) C (nsX_mem (by decide)) rfl iw_X9_measure_X2 (by decide) rfl m_X9_measure_f49 (ceX_3 _) rfl dX9_measure_54 ?_
    refine V_icmp_ge C 109 dX9_measure_57 (by decide) (fun q6 => ?_) (fun q6 => ?_)
    · have h := h.1 q6
      exact V_vret C hr hlk dX9_measure_109 h
    · have h := h.2 q6
      refine V_iconst (v := (0 : Int32)) C dX9_measure_60 (by decide) ?_
      refine V_istore (lv' := [(5, .int (0 : Int32)), (0, .ref (ad 60)), (1, .ref (ad 3)), (4, .int v4)]) C dX9_measure_61 (by decide) rfl ?_
      refine V_drop (lv' := [(0, .ref (ad 60)), (1, .ref (ad 3)), (4, .int v4), (5, .int (0 : Int32))]) [1, 2, 3, 0] rfl ?_
      obtain ⟨n0, h⟩ := h
      exact L63 (w_X9_measure_51  post  n) ih n0 v4 (0 : Int32) M h 
  have L3 : ∀  (n : Nat) (v2 : Int32) (v3 : Int32) (v4 : Int32) (M : Mm), w_X9_measure_3  post  n v2 v3 v4 M → V p l e (rmL 5) s m args below meth c (MQ below (va_Qv post (Wd D (tysC cy) ad nsX (ceX ad cy) (ExX A ad)) A) args s 0 0 A) D A ad nsX (ceX ad cy) 6 M [(0, .ref (ad 60)), (1, .ref (ad 3)), (2, .int v2), (3, .int v3), (4, .int v4)] 3 [] := by
    intro  n
    induction n with
    | zero => intro v2 v3 v4 M h; exact h.elim
    | succ n ih =>
    intro v2 v3 v4 M h 
    unfold w_X9_measure_3 at h
    refine V_iload C 4 dX9_measure_3 rfl ?_
    refine V_aload_n C 1 dX9_measure_5 rfl ?_
    refine V_get (k0 := 2) (Cn := RX2) (T := TX2) (N := 18) C (nsX_mem (by decide)) rfl iw_X9_measure_X2 (by decide) rfl m_X9_measure_f34 (ceX_3 _) rfl dX9_measure_6 ?_
    refine V_icmp_ge C 32 dX9_measure_9 (by decide) (fun q7 => ?_) (fun q7 => ?_)
    · have h := h.1 q7
      refine V_aload_n C 0 dX9_measure_32 rfl ?_
      refine V_get (k0 := 1) (Cn := RX9) (T := TX9) (N := 6) C (nsX_mem (by decide)) rfl iw_X9_measure_X9 (by decide) rfl m_X9_measure_f15 (ceX_60 _) rfl dX9_measure_33 ?_
      refine V_ldc (v := (1000000 : Int32)) C dX9_measure_36 m_X9_measure_c29 ?_
      refine V_callSv (rest := []) C (c_J7_fill_53178 l D cy ad A G 62 (nsX_mem (by decide)) (fun _ => rfl) (1000000 : Int32) M _ h) (va_cwS 2 C.1.2.2.2.2 gX9_measure_J7_fill_53178 rfl rfl rfl (by decide +kernel) ⟨by decide, by decide⟩) rfl rfl (Nat.le_of_ble_eq_true rfl) dX9_measure_38 (fun M9 h => ?_)
      refine V_aload_n C 0 dX9_measure_41 rfl ?_
      refine V_get (k0 := 1) (Cn := RX9) (T := TX9) (N := 6) C (nsX_mem (by decide)) rfl iw_X9_measure_X9 (by decide) rfl m_X9_measure_f15 (ceX_60 _) rfl dX9_measure_42 ?_
      refine V_iload_n C 3 dX9_measure_45 rfl ?_
      refine V_iconst (v := (0 : Int32)) C dX9_measure_46 (by decide) ?_
      have g11 := h.1
      have h := h.2
      refine V_iast (t0 := 1) (L := 5) C (nsX_mem (by decide)) (fun _ => rfl) rfl g11 dX9_measure_47 (fun M12 e13 => ?_)
      have h := h M12 e13
      refine V_iconst (v := (1 : Int32)) C dX9_measure_48 (by decide) ?_
      refine V_istore (lv' := [(4, .int (1 : Int32)), (0, .ref (ad 60)), (1, .ref (ad 3)), (2, .int v2), (3, .int v3)]) C dX9_measure_49 (by decide) rfl ?_
      refine V_drop (lv' := [(0, .ref (ad 60)), (1, .ref (ad 3)), (4, .int (1 : Int32))]) [1, 2, 0] rfl ?_
      obtain ⟨n0, h⟩ := h
      exact L51  n0 (1 : Int32) M12 h 
    · have h := h.2 q7
      refine V_aload_n C 0 dX9_measure_12 rfl ?_
      refine V_get (k0 := 0) (Cn := RX9) (T := TX9) (N := 6) C (nsX_mem (by decide)) rfl iw_X9_measure_X9 (by decide) rfl m_X9_measure_f9 (ceX_60 _) rfl dX9_measure_13 ?_
      refine V_iload C 4 dX9_measure_16 rfl ?_
      refine V_aload_n C 1 dX9_measure_18 rfl ?_
      refine V_iload_n C 2 dX9_measure_19 rfl ?_
      refine V_iload C 4 dX9_measure_20 rfl ?_
      refine V_callVi (q := (RX2, TX2, 18)) (rest := [.int v4, .ref (ad 61)]) C (nsX_mem (by decide)) (ceX_3 _) rfl (c_X2_aloneSteps l D cy ad A G 3 (by decide) v2 v4 M _ h) (cwV 2 C.1.2.2.2.2 gX9_measure_X2_aloneSteps rfl rfl rfl (by decide +kernel) ⟨by decide, by decide⟩) rfl rfl (Nat.le_of_ble_eq_true rfl) dX9_measure_22 (fun r14 M15 h => ?_)
      have g17 := h.1
      have h := h.2
      refine V_iast (t0 := 1) (L := 7) C (nsX_mem (by decide)) (fun _ => rfl) rfl g17 dX9_measure_25 (fun M18 e19 => ?_)
      have h := h M18 e19
      refine V_iinc (v := (v4 + 1)) (lv' := [(4, .int (v4 + 1)), (0, .ref (ad 60)), (1, .ref (ad 3)), (2, .int v2), (3, .int v3)]) C 4 dX9_measure_26 rfl rfl (by decide) rfl ?_
      refine V_goto C 3 dX9_measure_29 (by decide) ?_
      refine V_drop (lv' := [(0, .ref (ad 60)), (1, .ref (ad 3)), (2, .int v2), (3, .int v3), (4, .int (v4 + 1))]) [1, 2, 3, 4, 0] rfl ?_
      exact ih v2 v3 (v4 + 1) M18 h 
  unfold w_X9_measure at h
  refine V_iconst (v := (0 : Int32)) C dX9_measure_0 (by decide) ?_
  refine V_istore (lv' := [(4, .int (0 : Int32)), (0, .ref (ad 60)), (1, .ref (ad 3)), (2, .int x1), (3, .int x2)]) C dX9_measure_1 (by decide) rfl ?_
  refine V_drop (lv' := [(0, .ref (ad 60)), (1, .ref (ad 3)), (2, .int x1), (3, .int x2), (4, .int (0 : Int32))]) [1, 2, 3, 4, 0] rfl ?_
  obtain ⟨n0, h⟩ := h
  exact L3  n0 x1 x2 (0 : Int32) M h 
def w_X9_stepsFrom (x1 : Int32) (M : Mm) (post : Int32 → Mm → Prop) : Prop :=
  (vp_in x1 5) ∧ ((((1000000 : Int32) ≤ (M.1 62 x1.toNatClampNeg)) → (post (-1 : Int32) M)) ∧ ((¬ (1000000 : Int32) ≤ (M.1 62 x1.toNatClampNeg)) → (post (M.1 62 x1.toNatClampNeg) M)))
theorem iw_X9_stepsFrom_X9 : ∀ w ∈ u_ws RX9 TX9 6, w ∈ wsX9_stepsFrom := by decide +kernel
theorem m_X9_stepsFrom_f15 : Cond.fieldLink RX9 15 "ShameYards$Ways" "reach" "[I" ∈ wsX9_stepsFrom := by decide +kernel
theorem m_X9_stepsFrom_c29 : Jvm.Cond.constant RX9 29 (1000000) ∈ wsX9_stepsFrom := by decide +kernel
set_option maxHeartbeats 4000000 in
set_option maxRecDepth 100000 in
theorem c_X9_stepsFrom (l : Launch) (D : va_G) (cy : Nat → ClassId) (ad : Nat → Nat) (A : Nat → Prop) (G : Gd A ad nsX)   (x1 : Int32) (M : Mm) (post : Int32 → Mm → Prop) (h : w_X9_stepsFrom x1 M post) : CI l yX9_stepsFrom wsX9_stepsFrom (rmL 2) D (tysC cy) A ad nsX (ceX ad cy) (ExX A ad) [.ref (ad 60), .int x1] M post := by
  refine Met_V (cc := cX9_stepsFrom) (maxL := 2) (ret := (some .int)) (by decide) rfl G Lo_X ExX_ok (Nat.le_of_ble_eq_true rfl) rfl ?_
  intro p e s m args below meth c C hr hlk
  have C : Cx p s m args c cX9_stepsFrom 2 RX9 wsX9_stepsFrom D (tysC cy) A ad nsX (ceX ad cy) (ExX A ad) := C
  unfold w_X9_stepsFrom at h
  refine V_aload_n C 0 dX9_stepsFrom_0 rfl ?_
  refine V_get (k0 := 1) (Cn := RX9) (T := TX9) (N := 6) C (nsX_mem (by decide)) rfl iw_X9_stepsFrom_X9 (by decide) rfl m_X9_stepsFrom_f15 (ceX_60 _) rfl dX9_stepsFrom_1 ?_
  refine V_iload_n C 1 dX9_stepsFrom_4 rfl ?_
  have g1 := h.1
  have h := h.2
  refine V_iald (t0 := 1) (L := 5) C (nsX_mem (by decide)) (fun _ => rfl) rfl g1 dX9_stepsFrom_5 ?_
  refine V_ldc (v := (1000000 : Int32)) C dX9_stepsFrom_6 m_X9_stepsFrom_c29 ?_
  refine V_icmp_ge C 20 dX9_stepsFrom_8 (by decide) (fun q2 => ?_) (fun q2 => ?_)
  · have h := h.1 q2
    refine V_iconst (v := (-1 : Int32)) C dX9_stepsFrom_20 (by decide) ?_
    exact V_iret C hr hlk dX9_stepsFrom_21 h
  · have h := h.2 q2
    refine V_aload_n C 0 dX9_stepsFrom_11 rfl ?_
    refine V_get (k0 := 1) (Cn := RX9) (T := TX9) (N := 6) C (nsX_mem (by decide)) rfl iw_X9_stepsFrom_X9 (by decide) rfl m_X9_stepsFrom_f15 (ceX_60 _) rfl dX9_stepsFrom_12 ?_
    refine V_iload_n C 1 dX9_stepsFrom_15 rfl ?_
    refine V_iald (t0 := 1) (L := 5) C (nsX_mem (by decide)) (fun _ => rfl) rfl g1 dX9_stepsFrom_16 ?_
    refine V_goto C 21 dX9_stepsFrom_17 (by decide) ?_
    exact V_iret C hr hlk dX9_stepsFrom_21 h
def w_X9_nextLeg_2  (post : Int32 → Mm → Prop)  : Nat → Int32 → Int32 → Mm → Prop
  | 0 => fun _ _ _ => False
  | n + 1 => fun v2 v3 M =>
    (((M.1 3 2) ≤ v3) → (post (-1 : Int32) M)) ∧ ((¬ (M.1 3 2) ≤ v3) → (w_X2_endsAt 3 v3 v2 M (fun r2 M3 => ((r2 = 0) → (w_X9_nextLeg_2  post  n v2 (v3 + 1) M3)) ∧ ((¬ r2 = 0) → ((vp_in v3 7) ∧ (w_X2_across 3 v3 v2 M3 (fun r7 M8 => (vp_in r7 5) ∧ ((vp_in v2 5) ∧ (((¬ ((M3.1 61 v3.toNatClampNeg) + (M8.1 62 r7.toNatClampNeg)) = (M8.1 62 v2.toNatClampNeg)) → (w_X9_nextLeg_2  post  n v2 (v3 + 1) M8)) ∧ ((((M3.1 61 v3.toNatClampNeg) + (M8.1 62 r7.toNatClampNeg)) = (M8.1 62 v2.toNatClampNeg)) → (post v3 M8)))))))))))
def w_X9_nextLeg (x1 : Int32) (M : Mm) (post : Int32 → Mm → Prop) : Prop :=
  ∃ n0 : Nat, w_X9_nextLeg_2  post  n0 x1 (0 : Int32) M
theorem iw_X9_nextLeg_X2 : ∀ w ∈ u_ws RX2 TX2 18, w ∈ wsX9_nextLeg := by decide +kernel
theorem iw_X9_nextLeg_X9 : ∀ w ∈ u_ws RX9 TX9 6, w ∈ wsX9_nextLeg := by decide +kernel
theorem m_X9_nextLeg_f34 : Cond.fieldLink RX9 34 "ShameYards$House" "passageCount" "I" ∈ wsX9_nextLeg := by decide +kernel
theorem m_X9_nextLeg_f9 : Cond.fieldLink RX9 9 "ShameYards$Ways" "tolls" "[I" ∈ wsX9_nextLeg := by decide +kernel
theorem m_X9_nextLeg_f15 : Cond.fieldLink RX9 15 "ShameYards$Ways" "reach" "[I" ∈ wsX9_nextLeg := by decide +kernel
set_option maxHeartbeats 4000000 in
set_option maxRecDepth 100000 in
theorem c_X9_nextLeg (l : Launch) (D : va_G) (cy : Nat → ClassId) (ad : Nat → Nat) (A : Nat → Prop) (G : Gd A ad nsX)   (x1 : Int32) (M : Mm) (post : Int32 → Mm → Prop) (h : w_X9_nextLeg x1 M post) : CI l yX9_nextLeg wsX9_nextLeg (rmL 3) D (tysC cy) A ad nsX (ceX ad cy) (ExX A ad) [.ref (ad 60), .ref (ad 3), .int x1] M post := by
  refine Met_V (cc := cX9_nextLeg) (maxL := 4) (ret := (some .int)) (by decide) rfl G Lo_X ExX_ok (Nat.le_of_ble_eq_true rfl) rfl ?_
  intro p e s m args below meth c C hr hlk
  have C : Cx p s m args c cX9_nextLeg 4 RX9 wsX9_nextLeg D (tysC cy) A ad nsX (ceX ad cy) (ExX A ad) := C
  have L2 : ∀  (n : Nat) (v2 : Int32) (v3 : Int32) (M : Mm), w_X9_nextLeg_2  post  n v2 v3 M → V p l e (rmL 3) s m args below meth c (MQ below (va_Qi post (Wd D (tysC cy) ad nsX (ceX ad cy) (ExX A ad)) A) args s 0 0 A) D A ad nsX (ceX ad cy) 4 M [(0, .ref (ad 60)), (1, .ref (ad 3)), (2, .int v2), (3, .int v3)] 2 [] := by
    intro  n
    induction n with
    | zero => intro v2 v3 M h; exact h.elim
    | succ n ih =>
    intro v2 v3 M h 
    unfold w_X9_nextLeg_2 at h
    refine V_iload_n C 3 dX9_nextLeg_2 rfl ?_
    refine V_aload_n C 1 dX9_nextLeg_3 rfl ?_
    refine V_get (k0 := 2) (Cn := RX2) (T := TX2) (N := 18) C (nsX_mem (by decide)) rfl iw_X9_nextLeg_X2 (by decide) rfl m_X9_nextLeg_f34 (ceX_3 _) rfl dX9_nextLeg_4 ?_
    refine V_icmp_ge C 54 dX9_nextLeg_7 (by decide) (fun q1 => ?_) (fun q1 => ?_)
    · have h := h.1 q1
      refine V_iconst (v := (-1 : Int32)) C dX9_nextLeg_54 (by decide) ?_
      exact V_iret C hr hlk dX9_nextLeg_55 h
    · have h := h.2 q1
      refine V_aload_n C 1 dX9_nextLeg_10 rfl ?_
      refine V_iload_n C 3 dX9_nextLeg_11 rfl ?_
      refine V_iload_n C 2 dX9_nextLeg_12 rfl ?_
      refine V_callVi (q := (RX2, TX2, 18)) (rest := []) C (nsX_mem (by decide)) (ceX_3 _) rfl (c_X2_endsAt l D cy ad A G 3 (by decide) v3 v2 M _ h) (cwV 2 C.1.2.2.2.2 gX9_nextLeg_X2_endsAt rfl rfl rfl (by decide +kernel) ⟨by decide, by decide⟩) rfl rfl (Nat.le_of_ble_eq_true rfl) dX9_nextLeg_13 (fun r2 M3 h => ?_)
      obtain ⟨z4, h⟩ := h
      refine V_if_eq C 48 dX9_nextLeg_16 (by decide) (fun q5 => ?_) (fun q5 => ?_)
      · have h := h.1 q5
        refine V_iinc (v := (v3 + 1)) (lv' := [(3, .int (v3 + 1)), (0, .ref (ad 60)), (1, .ref (ad 3)), (2, .int v2)]) C 3 dX9_nextLeg_48 rfl rfl (by decide) rfl ?_
        refine V_goto C 2 dX9_nextLeg_51 (by decide) ?_
        refine V_drop (lv' := [(0, .ref (ad 60)), (1, .ref (ad 3)), (2, .int v2), (3, .int (v3 + 1))]) [1, 2, 3, 0] rfl ?_
        exact ih v2 (v3 + 1) M3 h 
      · have h := h.2 q5
        refine V_aload_n C 0 dX9_nextLeg_19 rfl ?_
        refine V_get (k0 := 0) (Cn := RX9) (T := TX9) (N := 6) C (nsX_mem (by decide)) rfl iw_X9_nextLeg_X9 (by decide) rfl m_X9_nextLeg_f9 (ceX_60 _) rfl dX9_nextLeg_20 ?_
        refine V_iload_n C 3 dX9_nextLeg_23 rfl ?_
        have g6 := h.1
        have h := h.2
        refine V_iald (t0 := 1) (L := 7) C (nsX_mem (by decide)) (fun _ => rfl) rfl g6 dX9_nextLeg_24 ?_
        refine V_aload_n C 0 dX9_nextLeg_25 rfl ?_
        refine V_get (k0 := 1) (Cn := RX9) (T := TX9) (N := 6) C (nsX_mem (by decide)) rfl iw_X9_nextLeg_X9 (by decide) rfl m_X9_nextLeg_f15 (ceX_60 _) rfl dX9_nextLeg_26 ?_
        refine V_aload_n C 1 dX9_nextLeg_29 rfl ?_
        refine V_iload_n C 3 dX9_nextLeg_30 rfl ?_
        refine V_iload_n C 2 dX9_nextLeg_31 rfl ?_
        refine V_callVi (q := (RX2, TX2, 18)) (rest := [.ref (ad 62), .int (M3.1 61 v3.toNatClampNeg)]) C (nsX_mem (by decide)) (ceX_3 _) rfl (c_X2_across l D cy ad A G 3 (by decide) v3 v2 M3 _ h) (cwV 2 C.1.2.2.2.2 gX9_nextLeg_X2_across rfl rfl rfl (by decide +kernel) ⟨by decide, by decide⟩) rfl rfl (Nat.le_of_ble_eq_true rfl) dX9_nextLeg_32 (fun r7 M8 h => ?_)
        have g10 := h.1
        have h := h.2
        refine V_iald (t0 := 1) (L := 5) C (nsX_mem (by decide)) (fun _ => rfl) rfl g10 dX9_nextLeg_35 ?_
        refine V_iadd C dX9_nextLeg_36 ?_
        refine V_aload_n C 0 dX9_nextLeg_37 rfl ?_
        refine V_get (k0 := 1) (Cn := RX9) (T := TX9) (N := 6) C (nsX_mem (by decide)) rfl iw_X9_nextLeg_X9 (by decide) rfl m_X9_nextLeg_f15 (ceX_60 _) rfl dX9_nextLeg_38 ?_
        refine V_iload_n C 2 dX9_nextLeg_41 rfl ?_
        have g11 := h.1
        have h := h.2
        refine V_iald (t0 := 1) (L := 5) C (nsX_mem (by decide)) (fun _ => rfl) rfl g11 dX9_nextLeg_42 ?_
        refine V_icmp_ne C 48 dX9_nextLeg_43 (by decide) (fun q12 => ?_) (fun q12 => ?_)
        · have h := h.1 q12
          refine V_iinc (v := (v3 + 1)) (lv' := [(3, .int (v3 + 1)), (0, .ref (ad 60)), (1, .ref (ad 3)), (2, .int v2)]) C 3 dX9_nextLeg_48 rfl rfl (by decide) rfl ?_
          refine V_goto C 2 dX9_nextLeg_51 (by decide) ?_
          refine V_drop (lv' := [(0, .ref (ad 60)), (1, .ref (ad 3)), (2, .int v2), (3, .int (v3 + 1))]) [1, 2, 3, 0] rfl ?_
          exact ih v2 (v3 + 1) M8 h 
        · have h := h.2 q12
          refine V_iload_n C 3 dX9_nextLeg_46 rfl ?_
          exact V_iret C hr hlk dX9_nextLeg_47 h
  unfold w_X9_nextLeg at h
  refine V_iconst (v := (0 : Int32)) C dX9_nextLeg_0 (by decide) ?_
  refine V_istore_n (lv' := [(3, .int (0 : Int32)), (0, .ref (ad 60)), (1, .ref (ad 3)), (2, .int x1)]) C dX9_nextLeg_1 rfl (by decide) rfl ?_
  refine V_drop (lv' := [(0, .ref (ad 60)), (1, .ref (ad 3)), (2, .int x1), (3, .int (0 : Int32))]) [1, 2, 3, 0] rfl ?_
  obtain ⟨n0, h⟩ := h
  exact L2  n0 x1 (0 : Int32) M h 
def w_X9_legFrom_15  (post : Int32 → Mm → Prop)  : Nat → Int32 → Int32 → Int32 → Int32 → Mm → Prop
  | 0 => fun _ _ _ _ _ => False
  | n + 1 => fun v3 v4 v5 v6 M =>
    ((v3 ≤ v6) → (post v5 M)) ∧ ((¬ v3 ≤ v6) → (((v5 = (-1 : Int32)) → (post v5 M)) ∧ ((¬ v5 = (-1 : Int32)) → (w_X2_across 3 v5 v4 M (fun r3 M4 => w_X9_nextLeg r3 M4 (fun r6 M7 => w_X9_legFrom_15  post  n v3 r3 r6 (v6 + 1) M7))))))
def w_X9_legFrom (x1 : Int32) (x2 : Int32) (M : Mm) (post : Int32 → Mm → Prop) : Prop :=
  w_X9_nextLeg x1 M (fun r9 M10 => ∃ n0 : Nat, w_X9_legFrom_15  post  n0 x2 x1 r9 (0 : Int32) M10)
set_option maxHeartbeats 4000000 in
set_option maxRecDepth 100000 in
theorem c_X9_legFrom (l : Launch) (D : va_G) (cy : Nat → ClassId) (ad : Nat → Nat) (A : Nat → Prop) (G : Gd A ad nsX)   (x1 : Int32) (x2 : Int32) (M : Mm) (post : Int32 → Mm → Prop) (h : w_X9_legFrom x1 x2 M post) : CI l yX9_legFrom wsX9_legFrom (rmL 4) D (tysC cy) A ad nsX (ceX ad cy) (ExX A ad) [.ref (ad 60), .ref (ad 3), .int x1, .int x2] M post := by
  refine Met_V (cc := cX9_legFrom) (maxL := 7) (ret := (some .int)) (by decide) rfl G Lo_X ExX_ok (Nat.le_of_ble_eq_true rfl) rfl ?_
  intro p e s m args below meth c C hr hlk
  have C : Cx p s m args c cX9_legFrom 7 RX9 wsX9_legFrom D (tysC cy) A ad nsX (ceX ad cy) (ExX A ad) := C
  have L15 : ∀  (n : Nat) (v3 : Int32) (v4 : Int32) (v5 : Int32) (v6 : Int32) (M : Mm), w_X9_legFrom_15  post  n v3 v4 v5 v6 M → V p l e (rmL 4) s m args below meth c (MQ below (va_Qi post (Wd D (tysC cy) ad nsX (ceX ad cy) (ExX A ad)) A) args s 0 0 A) D A ad nsX (ceX ad cy) 7 M [(0, .ref (ad 60)), (1, .ref (ad 3)), (3, .int v3), (4, .int v4), (5, .int v5), (6, .int v6)] 15 [] := by
    intro  n
    induction n with
    | zero => intro v3 v4 v5 v6 M h; exact h.elim
    | succ n ih =>
    intro v3 v4 v5 v6 M h 
    unfold w_X9_legFrom_15 at h
    refine V_iload C 5 dX9_legFrom_15 rfl ?_
    refine V_iload_n C 2 dX9_legFrom_17 rfl ?_
    refine V_icmp_ge C 52 dX9_legFrom_18 (by decide) (fun q1 => ?_) (fun q1 => ?_)
    · have h := h.1 q1
      refine V_iload C 4 dX9_legFrom_52 rfl ?_
      exact V_iret C hr hlk dX9_legFrom_54 h
    · have h := h.2 q1
      refine V_iload C 4 dX9_legFrom_21 rfl ?_
      refine V_iconst (v := (-1 : Int32)) C dX9_legFrom_23 (by decide) ?_
      refine V_icmp_eq C 52 dX9_legFrom_24 (by decide) (fun q2 => ?_) (fun q2 => ?_)
      · have h := h.1 q2
        refine V_iload C 4 dX9_legFrom_52 rfl ?_
        exact V_iret C hr hlk dX9_legFrom_54 h
      · have h := h.2 q2
        refine V_aload_n C 1 dX9_legFrom_27 rfl ?_
        refine V_iload C 4 dX9_legFrom_28 rfl ?_
        refine V_iload C 3 dX9_legFrom_30 rfl ?_
        refine V_callVi (q := (RX2, TX2, 18)) (rest := []) C (nsX_mem (by decide)) (ceX_3 _) rfl (c_X2_across l D cy ad A G 3 (by decide) v5 v4 M _ h) (cwV 2 C.1.2.2.2.2 gX9_legFrom_X2_across rfl rfl rfl (by decide +kernel) ⟨by decide, by decide⟩) rfl rfl (Nat.le_of_ble_eq_true rfl) dX9_legFrom_32 (fun r3 M4 h => ?_)
        refine V_istore (lv' := [(4, .int r3), (0, .ref (ad 60)), (1, .ref (ad 3)), (3, .int v3), (5, .int v5), (6, .int v6)]) C dX9_legFrom_35 (by decide) rfl ?_
        refine V_aload_n C 1 dX9_legFrom_37 rfl ?_
        refine V_aload_n C 2 dX9_legFrom_38 rfl ?_
        refine V_iload C 0 dX9_legFrom_39 rfl ?_
        refine V_callVi (q := (RX9, TX9, 6)) (rest := []) C (nsX_mem (by decide)) (ceX_60 _) rfl (c_X9_nextLeg l D cy ad A G r3 M4 _ h) (cwV 2 C.1.2.2.2.2 gX9_legFrom_X9_nextLeg rfl rfl rfl (by decide +kernel) ⟨by decide, by decide⟩) rfl rfl (Nat.le_of_ble_eq_true rfl) dX9_legFrom_41 (fun r6 M7 h => ?_)
        refine V_istore (lv' := [(5, .int r6), (4, .int r3), (0, .ref (ad 60)), (1, .ref (ad 3)), (3, .int v3), (6, .int v6)]) C dX9_legFrom_44 (by decide) rfl ?_
        refine V_iinc (v := (v6 + 1)) (lv' := [(6, .int (v6 + 1)), (5, .int r6), (4, .int r3), (0, .ref (ad 60)), (1, .ref (ad 3)), (3, .int v3)]) C 5 dX9_legFrom_46 rfl rfl (by decide) rfl ?_
        refine V_goto C 15 dX9_legFrom_49 (by decide) ?_
        refine V_drop (lv' := [(0, .ref (ad 60)), (1, .ref (ad 3)), (3, .int v3), (4, .int r3), (5, .int r6), (6, .int (v6 + 1))]) [3, 4, 5, 2, 1, 0] rfl ?_
        exact ih v3 r3 r6 (v6 + 1) M7 h 
  unfold w_X9_legFrom at h
  refine V_iload_n C 2 dX9_legFrom_0 rfl ?_
  refine V_istore (lv' := [(4, .int x1), (0, .ref (ad 60)), (1, .ref (ad 3)), (2, .int x1), (3, .int x2)]) C dX9_legFrom_1 (by decide) rfl ?_
  refine V_aload_n C 1 dX9_legFrom_3 rfl ?_
  refine V_aload_n C 2 dX9_legFrom_4 rfl ?_
  refine V_iload C 0 dX9_legFrom_5 rfl ?_
  refine V_callVi (q := (RX9, TX9, 6)) (rest := []) C (nsX_mem (by decide)) (ceX_60 _) rfl (c_X9_nextLeg l D cy ad A G x1 M _ h) (cwV 2 C.1.2.2.2.2 gX9_legFrom_X9_nextLeg rfl rfl rfl (by decide +kernel) ⟨by decide, by decide⟩) rfl rfl (Nat.le_of_ble_eq_true rfl) dX9_legFrom_7 (fun r9 M10 h => ?_)
  refine V_istore (lv' := [(5, .int r9), (4, .int x1), (0, .ref (ad 60)), (1, .ref (ad 3)), (2, .int x1), (3, .int x2)]) C dX9_legFrom_10 (by decide) rfl ?_
  refine V_iconst (v := (0 : Int32)) C dX9_legFrom_12 (by decide) ?_
  refine V_istore (lv' := [(6, .int (0 : Int32)), (5, .int r9), (4, .int x1), (0, .ref (ad 60)), (1, .ref (ad 3)), (2, .int x1), (3, .int x2)]) C dX9_legFrom_13 (by decide) rfl ?_
  refine V_drop (lv' := [(0, .ref (ad 60)), (1, .ref (ad 3)), (3, .int x2), (4, .int x1), (5, .int r9), (6, .int (0 : Int32))]) [3, 4, 6, 2, 1, 0] rfl ?_
  obtain ⟨n0, h⟩ := h
  exact L15  n0 x2 x1 r9 (0 : Int32) M10 h 
def w_X9_assignFrom_23 (rc : Int32 → Int32 → Int32 → Mm → (Mm → Prop) → Prop) (post : Mm → Prop)  (v4 : Int32) (M : Mm) : Prop :=
    ∀ M1 : Mm, M1 = wI M 60 (upd (M.1 60) 5 v4) → (∀ M3 : Mm, M3 = wI M1 70 (va_cpy (M1.1 69) (M1.1 70) (0 : Int32).toNatClampNeg (0 : Int32).toNatClampNeg (5 : Int32).toNatClampNeg) → (post M3))
def w_X9_assignFrom_47 (rc : Int32 → Int32 → Int32 → Mm → (Mm → Prop) → Prop) (post : Mm → Prop)  : Nat → Int32 → Int32 → Int32 → Int32 → Mm → Prop
  | 0 => fun _ _ _ _ _ => False
  | n + 1 => fun v2 v3 v4 v5 M =>
    (((M.1 3 3) ≤ v5) → (post M)) ∧ ((¬ (M.1 3 3) ≤ v5) → (((¬ ((v3 >>> (v5 &&& 31)) &&& (1 : Int32)) = 0) → (w_X9_assignFrom_47 rc post  n v2 v3 v4 (v5 + 1) M)) ∧ ((((v3 >>> (v5 &&& 31)) &&& (1 : Int32)) = 0) → ((vp_in v2 5) ∧ (∀ M8 : Mm, M8 = wI M 69 (upd (M.1 69) v2.toNatClampNeg v5) → ((vp_in v5 5) ∧ (rc (v2 + (1 : Int32)) (v3 ||| ((1 : Int32) <<< (v5 &&& 31))) (v4 + (M8.1 (64 + v5.toNatClampNeg) v2.toNatClampNeg)) M8 (fun M12 => w_X9_assignFrom_47 rc post  n v2 v3 v4 (v5 + 1) M12))))))))
def w_X9_assignFrom : Nat → Int32 → Int32 → Int32 → Mm → (Mm → Prop) → Prop
  | 0 => fun _ _ _ _ _ => False
  | f + 1 => fun x1 x2 x3 M post =>
  ((x3 < (M.1 60 5)) → ((((M.1 3 1) ≤ x1) → (w_X9_assignFrom_23 (w_X9_assignFrom f) post  x3 M)) ∧ ((¬ (M.1 3 1) ≤ x1) → (((x1 < (5 : Int32)) → (∃ n0 : Nat, w_X9_assignFrom_47 (w_X9_assignFrom f) post  n0 x1 x2 x3 (0 : Int32) M)) ∧ ((¬ x1 < (5 : Int32)) → (w_X9_assignFrom_23 (w_X9_assignFrom f) post  x3 M)))))) ∧ ((¬ x3 < (M.1 60 5)) → (post M))
theorem iw_X9_assignFrom_X9 : ∀ w ∈ u_ws RX9 TX9 6, w ∈ wsX9_assignFrom := by decide +kernel
theorem iw_X9_assignFrom_X2 : ∀ w ∈ u_ws RX2 TX2 18, w ∈ wsX9_assignFrom := by decide +kernel
theorem m_X9_assignFrom_f30 : Cond.fieldLink RX9 30 "ShameYards$Ways" "fewest" "I" ∈ wsX9_assignFrom := by decide +kernel
theorem m_X9_assignFrom_f23 : Cond.fieldLink RX9 23 "ShameYards$Ways" "trial" "[I" ∈ wsX9_assignFrom := by decide +kernel
theorem m_X9_assignFrom_f26 : Cond.fieldLink RX9 26 "ShameYards$Ways" "best" "[I" ∈ wsX9_assignFrom := by decide +kernel
theorem m_X9_assignFrom_l88 : Cond.methodLink RX9 88 arraycopyName ∈ wsX9_assignFrom := by decide +kernel
theorem m_X9_assignFrom_nac : Cond.native arraycopyName ∈ wsX9_assignFrom := by decide +kernel
theorem m_X9_assignFrom_sac : Cond.static arraycopyName ∈ wsX9_assignFrom := by decide +kernel
theorem m_X9_assignFrom_isys : Cond.initialized "java/lang/System" ∈ wsX9_assignFrom := by decide +kernel
theorem m_X9_assignFrom_f78 : Cond.fieldLink RX9 78 "ShameYards$House" "peopleCount" "I" ∈ wsX9_assignFrom := by decide +kernel
theorem m_X9_assignFrom_f20 : Cond.fieldLink RX9 20 "ShameYards$Ways" "costs" "[[I" ∈ wsX9_assignFrom := by decide +kernel
theorem m_X9_assignFrom_f49 : Cond.fieldLink RX9 49 "ShameYards$House" "roomCount" "I" ∈ wsX9_assignFrom := by decide +kernel
set_option maxHeartbeats 4000000 in
set_option maxRecDepth 100000 in
theorem c_X9_assignFrom (l : Launch) (D : va_G) (cy : Nat → ClassId) (ad : Nat → Nat) (A : Nat → Prop) (G : Gd A ad nsX)   : ∀ (f : Nat) (x1 : Int32) (x2 : Int32) (x3 : Int32) (M : Mm) (post : Mm → Prop) (h : w_X9_assignFrom f x1 x2 x3 M post), CV l yX9_assignFrom wsX9_assignFrom (rmL (2 + f)) D (tysC cy) A ad nsX (ceX ad cy) (ExX A ad) [.ref (ad 60), .ref (ad 3), .int x1, .int x2, .int x3] M post := by
  intro f
  induction f with
  | zero => intro x1 x2 x3 M post h; exact h.elim
  | succ f hrc =>
  intro x1 x2 x3 M post h
  unfold w_X9_assignFrom at h
  generalize w_X9_assignFrom f = rc at h hrc
  refine Met_V (cc := cX9_assignFrom) (maxL := 6) (ret := none) (by decide) rfl G Lo_X ExX_ok (Nat.le_of_ble_eq_true rfl) rfl ?_
  intro p e s m args below meth c C hr hlk
  have C : Cx p s m args c cX9_assignFrom 6 RX9 wsX9_assignFrom D (tysC cy) A ad nsX (ceX ad cy) (ExX A ad) := C
  have L23 : ∀  (v4 : Int32) (M : Mm), w_X9_assignFrom_23 rc post  v4 M → V p l e (rmL (2 + (f + 1))) s m args below meth c (MQ below (va_Qv post (Wd D (tysC cy) ad nsX (ceX ad cy) (ExX A ad)) A) args s 0 0 A) D A ad nsX (ceX ad cy) 6 M [(0, .ref (ad 60)), (4, .int v4)] 23 [] := by
    intro  v4 M h 
    unfold w_X9_assignFrom_23 at h
    refine V_aload_n C 0 dX9_assignFrom_23 rfl ?_
    refine V_iload C 1 dX9_assignFrom_24 rfl ?_
    refine V_putI (k0 := 5) (Cn := RX9) (T := TX9) (N := 6) C (nsX_mem (by decide)) rfl iw_X9_assignFrom_X9 (by decide) rfl m_X9_assignFrom_f30 tyX9_ok nmX9 rfl (show _ = some FieldType.int by decide +kernel) rfl rfl (Nat.le_of_ble_eq_true rfl) (ceX_60 _) (stX60_5  _ _) dX9_assignFrom_26 (fun M1 e2 => ?_)
    have h := h M1 e2
    refine V_aload_n C 0 dX9_assignFrom_29 rfl ?_
    refine V_get (k0 := 3) (Cn := RX9) (T := TX9) (N := 6) C (nsX_mem (by decide)) rfl iw_X9_assignFrom_X9 (by decide) rfl m_X9_assignFrom_f23 (ceX_60 _) rfl dX9_assignFrom_30 ?_
    refine V_iconst (v := (0 : Int32)) C dX9_assignFrom_33 (by decide) ?_
    refine V_aload_n C 0 dX9_assignFrom_34 rfl ?_
    refine V_get (k0 := 4) (Cn := RX9) (T := TX9) (N := 6) C (nsX_mem (by decide)) rfl iw_X9_assignFrom_X9 (by decide) rfl m_X9_assignFrom_f26 (ceX_60 _) rfl dX9_assignFrom_35 ?_
    refine V_iconst (v := (0 : Int32)) C dX9_assignFrom_38 (by decide) ?_
    refine V_iconst (v := (5 : Int32)) C dX9_assignFrom_39 (by decide) ?_
    refine V_copyi (t0 := 1) (L0 := 5) (L1 := 5) C m_X9_assignFrom_l88 m_X9_assignFrom_nac m_X9_assignFrom_sac m_X9_assignFrom_isys (nsX_mem (by decide)) (nsX_mem (by decide)) (fun _ => rfl) (fun _ => rfl) rfl (by decide) (by decide) (by decide) (by decide) (by decide) (by show 1 ≤ 2 + (f + 1); omega) (Nat.le_trans (Nat.le_of_ble_eq_true rfl : _ ≤ 64 * 2) (by show 64 * 2 ≤ 64 * (2 + (f + 1)); omega)) dX9_assignFrom_40 (fun M3 e4 => ?_)
    have h := h M3 e4
    exact V_vret C hr hlk dX9_assignFrom_43 h
  have L47 : ∀  (n : Nat) (v2 : Int32) (v3 : Int32) (v4 : Int32) (v5 : Int32) (M : Mm), w_X9_assignFrom_47 rc post  n v2 v3 v4 v5 M → V p l e (rmL (2 + (f + 1))) s m args below meth c (MQ below (va_Qv post (Wd D (tysC cy) ad nsX (ceX ad cy) (ExX A ad)) A) args s 0 0 A) D A ad nsX (ceX ad cy) 6 M [(0, .ref (ad 60)), (1, .ref (ad 3)), (2, .int v2), (3, .int v3), (4, .int v4), (5, .int v5)] 47 [] := by
    intro  n
    induction n with
    | zero => intro v2 v3 v4 v5 M h; exact h.elim
    | succ n ih =>
    intro v2 v3 v4 v5 M h 
    unfold w_X9_assignFrom_47 at h
    refine V_iload C 5 dX9_assignFrom_47 rfl ?_
    refine V_aload_n C 1 dX9_assignFrom_49 rfl ?_
    refine V_get (k0 := 3) (Cn := RX2) (T := TX2) (N := 18) C (nsX_mem (by decide)) rfl iw_X9_assignFrom_X2 (by decide) rfl m_X9_assignFrom_f78 (ceX_3 _) rfl dX9_assignFrom_50 ?_
    refine V_icmp_ge C 105 dX9_assignFrom_53 (by decide) (fun q5 => ?_) (fun q5 => ?_)
    · have h := h.1 q5
      exact V_vret C hr hlk dX9_assignFrom_105 h
    · have h := h.2 q5
      refine V_iload_n C 3 dX9_assignFrom_56 rfl ?_
      refine V_iload C 5 dX9_assignFrom_57 rfl ?_
      refine V_ishr C dX9_assignFrom_59 ?_
      refine V_iconst (v := (1 : Int32)) C dX9_assignFrom_60 (by decide) ?_
      refine V_iand C dX9_assignFrom_61 ?_
      refine V_if_ne C 99 dX9_assignFrom_62 (by decide) (fun q6 => ?_) (fun q6 => ?_)
      · have h := h.1 q6
        refine V_iinc (v := (v5 + 1)) (lv' := [(5, .int (v5 + 1)), (0, .ref (ad 60)), (1, .ref (ad 3)), (2, .int v2), (3, .int v3), (4, .int v4)]) C 5 dX9_assignFrom_99 rfl rfl (by decide) rfl ?_
        refine V_goto C 47 dX9_assignFrom_102 (by decide) ?_
        refine V_drop (lv' := [(0, .ref (ad 60)), (1, .ref (ad 3)), (2, .int v2), (3, .int v3), (4, .int v4), (5, .int (v5 + 1))]) [1, 2, 3, 4, 5, 0] rfl ?_
        exact ih v2 v3 v4 (v5 + 1) M h 
      · have h := h.2 q6
        refine V_aload_n C 0 dX9_assignFrom_65 rfl ?_
        refine V_get (k0 := 3) (Cn := RX9) (T := TX9) (N := 6) C (nsX_mem (by decide)) rfl iw_X9_assignFrom_X9 (by decide) rfl m_X9_assignFrom_f23 (ceX_60 _) rfl dX9_assignFrom_66 ?_
        refine V_iload_n C 2 dX9_assignFrom_69 rfl ?_
        refine V_iload C 5 dX9_assignFrom_70 rfl ?_
        have g7 := h.1
        have h := h.2
        refine V_iast (t0 := 1) (L := 5) C (nsX_mem (by decide)) (fun _ => rfl) rfl g7 dX9_assignFrom_72 (fun M8 e9 => ?_)
        have h := h M8 e9
        refine V_aload_n C 0 dX9_assignFrom_73 rfl ?_
        refine V_aload_n C 1 dX9_assignFrom_74 rfl ?_
        refine V_iload_n C 2 dX9_assignFrom_75 rfl ?_
        refine V_iconst (v := (1 : Int32)) C dX9_assignFrom_76 (by decide) ?_
        refine V_iadd C dX9_assignFrom_77 ?_
        refine V_iload_n C 3 dX9_assignFrom_78 rfl ?_
        refine V_iconst (v := (1 : Int32)) C dX9_assignFrom_79 (by decide) ?_
        refine V_iload C 5 dX9_assignFrom_80 rfl ?_
        refine V_ishl C dX9_assignFrom_82 ?_
        refine V_ior C dX9_assignFrom_83 ?_
        refine V_iload C 4 dX9_assignFrom_84 rfl ?_
        refine V_aload_n C 0 dX9_assignFrom_86 rfl ?_
        refine V_get (k0 := 2) (Cn := RX9) (T := TX9) (N := 6) C (nsX_mem (by decide)) rfl iw_X9_assignFrom_X9 (by decide) rfl m_X9_assignFrom_f20 (ceX_60 _) rfl dX9_assignFrom_87 ?_
        refine V_iload C 5 dX9_assignFrom_90 rfl ?_
        have g10 := h.1
        have h := h.2
        refine V_aald (t0 := 4) (L := 5) (r := (64 + v5.toNatClampNeg)) C (nsX_mem (by decide)) ((fun _ => rfl) _) rfl rfl g10 (row_at g10) dX9_assignFrom_92 ?_
        refine V_iload_n C 2 dX9_assignFrom_93 rfl ?_
        refine V_iald (t0 := 1) (L := 5) C (row_mem 64 g10 (by decide)) (row_64 g10) rfl g7 dX9_assignFrom_94 ?_
        refine V_iadd C dX9_assignFrom_95 ?_
        refine V_callSv (rest := []) C (hrc (v2 + (1 : Int32)) (v3 ||| ((1 : Int32) <<< (v5 &&& 31))) (v4 + (M8.1 (64 + v5.toNatClampNeg) v2.toNatClampNeg)) M8 _ h) (va_cwS 5 C.1.2.2.2.2 gX9_assignFrom_X9_assignFrom rfl rfl rfl (by decide +kernel) ⟨by show 2 + f + 1 ≤ 2 + (f + 1); omega, by show 8 + (6 + 11) + 64 * (2 + f) ≤ 64 * (2 + (f + 1)); omega⟩) rfl rfl (Nat.le_of_ble_eq_true rfl) dX9_assignFrom_96 (fun M12 h => ?_)
        refine V_iinc (v := (v5 + 1)) (lv' := [(5, .int (v5 + 1)), (0, .ref (ad 60)), (1, .ref (ad 3)), (2, .int v2), (3, .int v3), (4, .int v4)]) C 5 dX9_assignFrom_99 rfl rfl (by decide) rfl ?_
        refine V_goto C 47 dX9_assignFrom_102 (by decide) ?_
        refine V_drop (lv' := [(0, .ref (ad 60)), (1, .ref (ad 3)), (2, .int v2), (3, .int v3), (4, .int v4), (5, .int (v5 + 1))]) [1, 2, 3, 4, 5, 0] rfl ?_
        exact ih v2 v3 v4 (v5 + 1) M12 h 
  refine V_iload C 4 dX9_assignFrom_0 rfl ?_
  refine V_aload_n C 0 dX9_assignFrom_2 rfl ?_
  refine V_get (k0 := 5) (Cn := RX9) (T := TX9) (N := 6) C (nsX_mem (by decide)) rfl iw_X9_assignFrom_X9 (by decide) rfl m_X9_assignFrom_f30 (ceX_60 _) rfl dX9_assignFrom_3 ?_
  refine V_icmp_lt C 10 dX9_assignFrom_6 (by decide) (fun q14 => ?_) (fun q14 => ?_)
  · have h := h.1 q14
    refine V_iload_n C 2 dX9_assignFrom_10 rfl ?_
    refine V_aload_n C 1 dX9_assignFrom_11 rfl ?_
    refine V_get (k0 := 1) (Cn := RX2) (T := TX2) (N := 18) C (nsX_mem (by decide)) rfl iw_X9_assignFrom_X2 (by decide) rfl m_X9_assignFrom_f49 (ceX_3 _) rfl dX9_assignFrom_12 ?_
    refine V_icmp_ge C 23 dX9_assignFrom_15 (by decide) (fun q15 => ?_) (fun q15 => ?_)
    · have h := h.1 q15
      refine V_drop (lv' := [(0, .ref (ad 60)), (4, .int x3)]) [0, 4] rfl ?_
      exact L23  x3 M h 
    · have h := h.2 q15
      refine V_iload_n C 2 dX9_assignFrom_18 rfl ?_
      refine V_iconst (v := (5 : Int32)) C dX9_assignFrom_19 (by decide) ?_
      refine V_icmp_lt C 44 dX9_assignFrom_20 (by decide) (fun q16 => ?_) (fun q16 => ?_)
      · have h := h.1 q16
        refine V_iconst (v := (0 : Int32)) C dX9_assignFrom_44 (by decide) ?_
        refine V_istore (lv' := [(5, .int (0 : Int32)), (0, .ref (ad 60)), (1, .ref (ad 3)), (2, .int x1), (3, .int x2), (4, .int x3)]) C dX9_assignFrom_45 (by decide) rfl ?_
        refine V_drop (lv' := [(0, .ref (ad 60)), (1, .ref (ad 3)), (2, .int x1), (3, .int x2), (4, .int x3), (5, .int (0 : Int32))]) [1, 2, 3, 4, 5, 0] rfl ?_
        obtain ⟨n0, h⟩ := h
        exact L47  n0 x1 x2 x3 (0 : Int32) M h 
      · have h := h.2 q16
        refine V_drop (lv' := [(0, .ref (ad 60)), (4, .int x3)]) [0, 4] rfl ?_
        exact L23  x3 M h 
  · have h := h.2 q14
    exact V_vret C hr hlk dX9_assignFrom_9 h
def w_X9_assign_2  (post : Mm → Prop)  : Nat → Int32 → Mm → Prop
  | 0 => fun _ _ => False
  | n + 1 => fun v2 M =>
    (((M.1 3 3) ≤ v2) → (∀ M2 : Mm, M2 = wI M 60 (upd (M.1 60) 5 (1000000 : Int32)) → (w_X9_assignFrom 8 (1 : Int32) (0 : Int32) (0 : Int32) M2 (fun M5 => post M5)))) ∧ ((¬ (M.1 3 3) ≤ v2) → ((vp_in v2 5) ∧ (w_X9_measure v2 (M.1 16 v2.toNatClampNeg) M (fun M9 => ∀ M11 : Mm, M11 = wI M9 (64 + v2.toNatClampNeg) (va_cpy (M9.1 62) (M9.1 (64 + v2.toNatClampNeg)) (0 : Int32).toNatClampNeg (0 : Int32).toNatClampNeg (5 : Int32).toNatClampNeg) → (w_X9_assign_2  post  n (v2 + 1) M11)))))
def w_X9_assign  (M : Mm) (post : Mm → Prop) : Prop :=
  ∃ n0 : Nat, w_X9_assign_2  post  n0 (0 : Int32) M
theorem iw_X9_assign_X2 : ∀ w ∈ u_ws RX2 TX2 18, w ∈ wsX9_assign := by decide +kernel
theorem iw_X9_assign_X9 : ∀ w ∈ u_ws RX9 TX9 6, w ∈ wsX9_assign := by decide +kernel
theorem m_X9_assign_f78 : Cond.fieldLink RX9 78 "ShameYards$House" "peopleCount" "I" ∈ wsX9_assign := by decide +kernel
theorem m_X9_assign_c29 : Jvm.Cond.constant RX9 29 (1000000) ∈ wsX9_assign := by decide +kernel
theorem m_X9_assign_f30 : Cond.fieldLink RX9 30 "ShameYards$Ways" "fewest" "I" ∈ wsX9_assign := by decide +kernel
theorem m_X9_assign_f81 : Cond.fieldLink RX9 81 "ShameYards$House" "places" "[I" ∈ wsX9_assign := by decide +kernel
theorem m_X9_assign_f15 : Cond.fieldLink RX9 15 "ShameYards$Ways" "reach" "[I" ∈ wsX9_assign := by decide +kernel
theorem m_X9_assign_f20 : Cond.fieldLink RX9 20 "ShameYards$Ways" "costs" "[[I" ∈ wsX9_assign := by decide +kernel
theorem m_X9_assign_l88 : Cond.methodLink RX9 88 arraycopyName ∈ wsX9_assign := by decide +kernel
theorem m_X9_assign_nac : Cond.native arraycopyName ∈ wsX9_assign := by decide +kernel
theorem m_X9_assign_sac : Cond.static arraycopyName ∈ wsX9_assign := by decide +kernel
theorem m_X9_assign_isys : Cond.initialized "java/lang/System" ∈ wsX9_assign := by decide +kernel
set_option maxHeartbeats 4000000 in
set_option maxRecDepth 100000 in
theorem c_X9_assign (l : Launch) (D : va_G) (cy : Nat → ClassId) (ad : Nat → Nat) (A : Nat → Prop) (G : Gd A ad nsX)    (M : Mm) (post : Mm → Prop) (h : w_X9_assign  M post) : CV l yX9_assign wsX9_assign (rmL 11) D (tysC cy) A ad nsX (ceX ad cy) (ExX A ad) [.ref (ad 60), .ref (ad 3)] M post := by
  refine Met_V (cc := cX9_assign) (maxL := 3) (ret := none) (by decide) rfl G Lo_X ExX_ok (Nat.le_of_ble_eq_true rfl) rfl ?_
  intro p e s m args below meth c C hr hlk
  have C : Cx p s m args c cX9_assign 3 RX9 wsX9_assign D (tysC cy) A ad nsX (ceX ad cy) (ExX A ad) := C
  have L2 : ∀  (n : Nat) (v2 : Int32) (M : Mm), w_X9_assign_2  post  n v2 M → V p l e (rmL 11) s m args below meth c (MQ below (va_Qv post (Wd D (tysC cy) ad nsX (ceX ad cy) (ExX A ad)) A) args s 0 0 A) D A ad nsX (ceX ad cy) 3 M [(0, .ref (ad 60)), (1, .ref (ad 3)), (2, .int v2)] 2 [] := by
    intro  n
    induction n with
    | zero => intro v2 M h; exact h.elim
    | succ n ih =>
    intro v2 M h 
    unfold w_X9_assign_2 at h
    refine V_iload_n C 2 dX9_assign_2 rfl ?_
    refine V_aload_n C 1 dX9_assign_3 rfl ?_
    refine V_get (k0 := 3) (Cn := RX2) (T := TX2) (N := 18) C (nsX_mem (by decide)) rfl iw_X9_assign_X2 (by decide) rfl m_X9_assign_f78 (ceX_3 _) rfl dX9_assign_4 ?_
    refine V_icmp_ge C 44 dX9_assign_7 (by decide) (fun q1 => ?_) (fun q1 => ?_)
    · have h := h.1 q1
      refine V_aload_n C 0 dX9_assign_44 rfl ?_
      refine V_ldc (v := (1000000 : Int32)) C dX9_assign_45 m_X9_assign_c29 ?_
      refine V_putI (k0 := 5) (Cn := RX9) (T := TX9) (N := 6) C (nsX_mem (by decide)) rfl iw_X9_assign_X9 (by decide) rfl m_X9_assign_f30 tyX9_ok nmX9 rfl (show _ = some FieldType.int by decide +kernel) rfl rfl (Nat.le_of_ble_eq_true rfl) (ceX_60 _) (stX60_5  _ _) dX9_assign_47 (fun M2 e3 => ?_)
      have h := h M2 e3
      refine V_aload_n C 0 dX9_assign_50 rfl ?_
      refine V_aload_n C 1 dX9_assign_51 rfl ?_
      refine V_iconst (v := (1 : Int32)) C dX9_assign_52 (by decide) ?_
      refine V_iconst (v := (0 : Int32)) C dX9_assign_53 (by decide) ?_
      refine V_iconst (v := (0 : Int32)) C dX9_assign_54 (by decide) ?_
      refine V_callSv (rest := []) C (c_X9_assignFrom l D cy ad A G 8 (1 : Int32) (0 : Int32) (0 : Int32) M2 _ h) (va_cwS 5 C.1.2.2.2.2 gX9_assign_X9_assignFrom rfl rfl rfl (by decide +kernel) ⟨by decide, by decide⟩) rfl rfl (Nat.le_of_ble_eq_true rfl) dX9_assign_55 (fun M5 h => ?_)
      exact V_vret C hr hlk dX9_assign_58 h
    · have h := h.2 q1
      refine V_aload_n C 0 dX9_assign_10 rfl ?_
      refine V_aload_n C 1 dX9_assign_11 rfl ?_
      refine V_iload_n C 2 dX9_assign_12 rfl ?_
      refine V_aload_n C 1 dX9_assign_13 rfl ?_
      refine V_get (k0 := 10) (Cn := RX2) (T := TX2) (N := 18) C (nsX_mem (by decide)) rfl iw_X9_assign_X2 (by decide) rfl m_X9_assign_f81 (ceX_3 _) rfl dX9_assign_14 ?_
      refine V_iload_n C 2 dX9_assign_17 rfl ?_
      have g7 := h.1
      have h := h.2
      refine V_iald (t0 := 1) (L := 5) C (nsX_mem (by decide)) (fun _ => rfl) rfl g7 dX9_assign_18 ?_
      refine V_callVv (q := (RX9, TX9, 6)) (rest := []) C (nsX_mem (by decide)) (ceX_60 _) rfl (c_X9_measure l D cy ad A G v2 (M.1 16 v2.toNatClampNeg) M _ h) (cwV 3 C.1.2.2.2.2 gX9_assign_X9_measure rfl rfl rfl (by decide +kernel) ⟨by decide, by decide⟩) rfl rfl (Nat.le_of_ble_eq_true rfl) dX9_assign_19 (fun M9 h => ?_)
      refine V_aload_n C 0 dX9_assign_22 rfl ?_
      refine V_get (k0 := 1) (Cn := RX9) (T := TX9) (N := 6) C (nsX_mem (by decide)) rfl iw_X9_assign_X9 (by decide) rfl m_X9_assign_f15 (ceX_60 _) rfl dX9_assign_23 ?_
      refine V_iconst (v := (0 : Int32)) C dX9_assign_26 (by decide) ?_
      refine V_aload_n C 0 dX9_assign_27 rfl ?_
      refine V_get (k0 := 2) (Cn := RX9) (T := TX9) (N := 6) C (nsX_mem (by decide)) rfl iw_X9_assign_X9 (by decide) rfl m_X9_assign_f20 (ceX_60 _) rfl dX9_assign_28 ?_
      refine V_iload_n C 2 dX9_assign_31 rfl ?_
      refine V_aald (t0 := 4) (L := 5) (r := (64 + v2.toNatClampNeg)) C (nsX_mem (by decide)) ((fun _ => rfl) _) rfl rfl g7 (row_at g7) dX9_assign_32 ?_
      refine V_iconst (v := (0 : Int32)) C dX9_assign_33 (by decide) ?_
      refine V_iconst (v := (5 : Int32)) C dX9_assign_34 (by decide) ?_
      refine V_copyi (t0 := 1) (L0 := 5) (L1 := 5) C m_X9_assign_l88 m_X9_assign_nac m_X9_assign_sac m_X9_assign_isys (nsX_mem (by decide)) (row_mem 64 g7 (by decide)) (fun _ => rfl) (row_64 g7) rfl (by decide) (by decide) (by decide) (by decide) (by decide) (by decide) (Nat.le_of_ble_eq_true rfl) dX9_assign_35 (fun M11 e12 => ?_)
      have h := h M11 e12
      refine V_iinc (v := (v2 + 1)) (lv' := [(2, .int (v2 + 1)), (0, .ref (ad 60)), (1, .ref (ad 3))]) C 2 dX9_assign_38 rfl rfl (by decide) rfl ?_
      refine V_goto C 2 dX9_assign_41 (by decide) ?_
      refine V_drop (lv' := [(0, .ref (ad 60)), (1, .ref (ad 3)), (2, .int (v2 + 1))]) [1, 2, 0] rfl ?_
      exact ih (v2 + 1) M11 h 
  unfold w_X9_assign at h
  refine V_iconst (v := (0 : Int32)) C dX9_assign_0 (by decide) ?_
  refine V_istore_n (lv' := [(2, .int (0 : Int32)), (0, .ref (ad 60)), (1, .ref (ad 3))]) C dX9_assign_1 rfl (by decide) rfl ?_
  refine V_drop (lv' := [(0, .ref (ad 60)), (1, .ref (ad 3)), (2, .int (0 : Int32))]) [1, 2, 0] rfl ?_
  obtain ⟨n0, h⟩ := h
  exact L2  n0 (0 : Int32) M h 
def w_X9_assignedSteps  (M : Mm) (post : Int32 → Mm → Prop) : Prop :=
  (((1000000 : Int32) ≤ (M.1 60 5)) → (post (-1 : Int32) M)) ∧ ((¬ (1000000 : Int32) ≤ (M.1 60 5)) → (post (M.1 60 5) M))
theorem iw_X9_assignedSteps_X9 : ∀ w ∈ u_ws RX9 TX9 6, w ∈ wsX9_assignedSteps := by decide +kernel
theorem m_X9_assignedSteps_f30 : Cond.fieldLink RX9 30 "ShameYards$Ways" "fewest" "I" ∈ wsX9_assignedSteps := by decide +kernel
theorem m_X9_assignedSteps_c29 : Jvm.Cond.constant RX9 29 (1000000) ∈ wsX9_assignedSteps := by decide +kernel
set_option maxHeartbeats 4000000 in
set_option maxRecDepth 100000 in
theorem c_X9_assignedSteps (l : Launch) (D : va_G) (cy : Nat → ClassId) (ad : Nat → Nat) (A : Nat → Prop) (G : Gd A ad nsX)    (M : Mm) (post : Int32 → Mm → Prop) (h : w_X9_assignedSteps  M post) : CI l yX9_assignedSteps wsX9_assignedSteps (rmL 2) D (tysC cy) A ad nsX (ceX ad cy) (ExX A ad) [.ref (ad 60)] M post := by
  refine Met_V (cc := cX9_assignedSteps) (maxL := 1) (ret := (some .int)) (by decide) rfl G Lo_X ExX_ok (Nat.le_of_ble_eq_true rfl) rfl ?_
  intro p e s m args below meth c C hr hlk
  have C : Cx p s m args c cX9_assignedSteps 1 RX9 wsX9_assignedSteps D (tysC cy) A ad nsX (ceX ad cy) (ExX A ad) := C
  unfold w_X9_assignedSteps at h
  refine V_aload_n C 0 dX9_assignedSteps_0 rfl ?_
  refine V_get (k0 := 5) (Cn := RX9) (T := TX9) (N := 6) C (nsX_mem (by decide)) rfl iw_X9_assignedSteps_X9 (by decide) rfl m_X9_assignedSteps_f30 (ceX_60 _) rfl dX9_assignedSteps_1 ?_
  refine V_ldc (v := (1000000 : Int32)) C dX9_assignedSteps_4 m_X9_assignedSteps_c29 ?_
  refine V_icmp_ge C 16 dX9_assignedSteps_6 (by decide) (fun q1 => ?_) (fun q1 => ?_)
  · have h := h.1 q1
    refine V_iconst (v := (-1 : Int32)) C dX9_assignedSteps_16 (by decide) ?_
    exact V_iret C hr hlk dX9_assignedSteps_17 h
  · have h := h.2 q1
    refine V_aload_n C 0 dX9_assignedSteps_9 rfl ?_
    refine V_get (k0 := 5) (Cn := RX9) (T := TX9) (N := 6) C (nsX_mem (by decide)) rfl iw_X9_assignedSteps_X9 (by decide) rfl m_X9_assignedSteps_f30 (ceX_60 _) rfl dX9_assignedSteps_10 ?_
    refine V_goto C 17 dX9_assignedSteps_13 (by decide) ?_
    exact V_iret C hr hlk dX9_assignedSteps_17 h
def w_X9_assignedTo (x1 : Int32) (M : Mm) (post : Int32 → Mm → Prop) : Prop :=
  (((1000000 : Int32) ≤ (M.1 60 5)) → (post (-1 : Int32) M)) ∧ ((¬ (1000000 : Int32) ≤ (M.1 60 5)) → (w_X2_hasRoom 3 x1 M (fun r2 M3 => ((r2 = 0) → (post (-1 : Int32) M3)) ∧ ((¬ r2 = 0) → ((vp_in x1 5) ∧ (post (M3.1 70 x1.toNatClampNeg) M3))))))
theorem iw_X9_assignedTo_X9 : ∀ w ∈ u_ws RX9 TX9 6, w ∈ wsX9_assignedTo := by decide +kernel
theorem m_X9_assignedTo_f30 : Cond.fieldLink RX9 30 "ShameYards$Ways" "fewest" "I" ∈ wsX9_assignedTo := by decide +kernel
theorem m_X9_assignedTo_c29 : Jvm.Cond.constant RX9 29 (1000000) ∈ wsX9_assignedTo := by decide +kernel
theorem m_X9_assignedTo_f26 : Cond.fieldLink RX9 26 "ShameYards$Ways" "best" "[I" ∈ wsX9_assignedTo := by decide +kernel
set_option maxHeartbeats 4000000 in
set_option maxRecDepth 100000 in
theorem c_X9_assignedTo (l : Launch) (D : va_G) (cy : Nat → ClassId) (ad : Nat → Nat) (A : Nat → Prop) (G : Gd A ad nsX)   (x1 : Int32) (M : Mm) (post : Int32 → Mm → Prop) (h : w_X9_assignedTo x1 M post) : CI l yX9_assignedTo wsX9_assignedTo (rmL 3) D (tysC cy) A ad nsX (ceX ad cy) (ExX A ad) [.ref (ad 60), .ref (ad 3), .int x1] M post := by
  refine Met_V (cc := cX9_assignedTo) (maxL := 3) (ret := (some .int)) (by decide) rfl G Lo_X ExX_ok (Nat.le_of_ble_eq_true rfl) rfl ?_
  intro p e s m args below meth c C hr hlk
  have C : Cx p s m args c cX9_assignedTo 3 RX9 wsX9_assignedTo D (tysC cy) A ad nsX (ceX ad cy) (ExX A ad) := C
  unfold w_X9_assignedTo at h
  refine V_aload_n C 0 dX9_assignedTo_0 rfl ?_
  refine V_get (k0 := 5) (Cn := RX9) (T := TX9) (N := 6) C (nsX_mem (by decide)) rfl iw_X9_assignedTo_X9 (by decide) rfl m_X9_assignedTo_f30 (ceX_60 _) rfl dX9_assignedTo_1 ?_
  refine V_ldc (v := (1000000 : Int32)) C dX9_assignedTo_4 m_X9_assignedTo_c29 ?_
  refine V_icmp_ge C 26 dX9_assignedTo_6 (by decide) (fun q1 => ?_) (fun q1 => ?_)
  · have h := h.1 q1
    refine V_iconst (v := (-1 : Int32)) C dX9_assignedTo_26 (by decide) ?_
    exact V_iret C hr hlk dX9_assignedTo_27 h
  · have h := h.2 q1
    refine V_aload_n C 1 dX9_assignedTo_9 rfl ?_
    refine V_iload_n C 2 dX9_assignedTo_10 rfl ?_
    refine V_callVi (q := (RX2, TX2, 18)) (rest := []) C (nsX_mem (by decide)) (ceX_3 _) rfl (c_X2_hasRoom l D cy ad A G 3 (by decide) x1 M _ h) (cwV 1 C.1.2.2.2.2 gX9_assignedTo_X2_hasRoom rfl rfl rfl (by decide +kernel) ⟨by decide, by decide⟩) rfl rfl (Nat.le_of_ble_eq_true rfl) dX9_assignedTo_11 (fun r2 M3 h => ?_)
    obtain ⟨z4, h⟩ := h
    refine V_if_eq C 26 dX9_assignedTo_14 (by decide) (fun q5 => ?_) (fun q5 => ?_)
    · have h := h.1 q5
      refine V_iconst (v := (-1 : Int32)) C dX9_assignedTo_26 (by decide) ?_
      exact V_iret C hr hlk dX9_assignedTo_27 h
    · have h := h.2 q5
      refine V_aload_n C 0 dX9_assignedTo_17 rfl ?_
      refine V_get (k0 := 4) (Cn := RX9) (T := TX9) (N := 6) C (nsX_mem (by decide)) rfl iw_X9_assignedTo_X9 (by decide) rfl m_X9_assignedTo_f26 (ceX_60 _) rfl dX9_assignedTo_18 ?_
      refine V_iload_n C 2 dX9_assignedTo_21 rfl ?_
      have g6 := h.1
      have h := h.2
      refine V_iald (t0 := 1) (L := 5) C (nsX_mem (by decide)) (fun _ => rfl) rfl g6 dX9_assignedTo_22 ?_
      refine V_goto C 27 dX9_assignedTo_23 (by decide) ?_
      exact V_iret C hr hlk dX9_assignedTo_27 h
