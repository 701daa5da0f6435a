def w_X7_isAsSeen_2  (post : Int32 → Mm → Prop)  : Nat → Int32 → Int32 → Int32 → Mm → Prop
  | 0 => fun _ _ _ _ => False
  | n + 1 => fun v1 v2 v3 M =>
    (((M.1 3 13) ≤ v3) → (post (1 : Int32) M)) ∧ ((¬ (M.1 3 13) ≤ v3) → ((((6 : Int32) ≤ v3) → (post (1 : Int32) M)) ∧ ((¬ (6 : Int32) ≤ v3) → ((vp_in v3 6) ∧ (((¬ (M.1 18 v3.toNatClampNeg) = v1) → (w_X7_isAsSeen_2  post  n v1 v2 (v3 + 1) M)) ∧ (((M.1 18 v3.toNatClampNeg) = v1) → (w_X2_stepsWithLies 3 v1 (M.1 19 v3.toNatClampNeg) (M.1 20 v3.toNatClampNeg) v2 M (fun r5 M6 => (((M.1 21 v3.toNatClampNeg) = r5) → (w_X7_isAsSeen_2  post  n v1 v2 (v3 + 1) M6)) ∧ ((¬ (M.1 21 v3.toNatClampNeg) = r5) → (post (0 : Int32) M6))))))))))
def w_X7_isAsSeen (x1 : Int32) (x2 : Int32) (M : Mm) (post : Int32 → Mm → Prop) : Prop :=
  ∃ n0 : Nat, w_X7_isAsSeen_2  post  n0 x1 x2 (0 : Int32) M
theorem iw_X7_isAsSeen_X2 : ∀ w ∈ u_ws RX2 TX2 18, w ∈ wsX7_isAsSeen := by decide +kernel
theorem m_X7_isAsSeen_f15 : Cond.fieldLink RX7 15 "ShameYards$House" "seenCount" "I" ∈ wsX7_isAsSeen := by decide +kernel
theorem m_X7_isAsSeen_f21 : Cond.fieldLink RX7 21 "ShameYards$House" "seenPerson" "[I" ∈ wsX7_isAsSeen := by decide +kernel
theorem m_X7_isAsSeen_f25 : Cond.fieldLink RX7 25 "ShameYards$House" "seenSteps" "[I" ∈ wsX7_isAsSeen := by decide +kernel
theorem m_X7_isAsSeen_f28 : Cond.fieldLink RX7 28 "ShameYards$House" "seenPassage" "[I" ∈ wsX7_isAsSeen := by decide +kernel
theorem m_X7_isAsSeen_f31 : Cond.fieldLink RX7 31 "ShameYards$House" "seenWith" "[I" ∈ wsX7_isAsSeen := by decide +kernel
set_option maxHeartbeats 4000000 in
set_option maxRecDepth 100000 in
theorem c_X7_isAsSeen (l : Launch) (D : va_G) (cy : Nat → ClassId) (ad : Nat → Nat) (A : Nat → Prop) (G : Gd A ad nsX)   (x1 : Int32) (x2 : Int32) (M : Mm) (post : Int32 → Mm → Prop) (h : w_X7_isAsSeen x1 x2 M post) : CI l yX7_isAsSeen wsX7_isAsSeen (rmL 5) D (tysC cy) A ad nsX (ceX ad cy) (ExX A ad) [.ref (ad 3), .int x1, .int x2] M (fun r M' => (r = 0 ∨ r = 1) ∧ post r M') := by
  refine Met_V (cc := cX7_isAsSeen) (maxL := 4) (ret := (some .boolean)) (by decide) rfl G Lo_X ExX_ok (Nat.le_of_ble_eq_true rfl) rfl ?_
  intro p e s m args below meth c C hr hlk
  have C : Cx p s m args c cX7_isAsSeen 4 RX7 wsX7_isAsSeen D (tysC cy) A ad nsX (ceX ad cy) (ExX A ad) := C
  have L2 : ∀  (n : Nat) (v1 : Int32) (v2 : Int32) (v3 : Int32) (M : Mm), w_X7_isAsSeen_2  post  n v1 v2 v3 M → V p l e (rmL 5) s m args below meth c (MQ below (va_Qi (fun r M' => (r = 0 ∨ r = 1) ∧ post r M') (Wd D (tysC cy) ad nsX (ceX ad cy) (ExX A ad)) A) args s 0 0 A) D A ad nsX (ceX ad cy) 4 M [(0, .ref (ad 3)), (1, .int v1), (2, .int v2), (3, .int v3)] 2 [] := by
    intro  n
    induction n with
    | zero => intro v1 v2 v3 M h; exact h.elim
    | succ n ih =>
    intro v1 v2 v3 M h 
    unfold w_X7_isAsSeen_2 at h
    refine V_iload_n C 3 dX7_isAsSeen_2 rfl ?_
    refine V_aload_n C 0 dX7_isAsSeen_3 rfl ?_
    refine V_get (k0 := 13) (Cn := RX2) (T := TX2) (N := 18) C (nsX_mem (by decide)) rfl iw_X7_isAsSeen_X2 (by decide) rfl m_X7_isAsSeen_f15 (ceX_3 _) rfl dX7_isAsSeen_4 ?_
    refine V_icmp_ge C 61 dX7_isAsSeen_7 (by decide) (fun q1 => ?_) (fun q1 => ?_)
    · have h := h.1 q1
      refine V_iconst (v := (1 : Int32)) C dX7_isAsSeen_61 (by decide) ?_
      exact V_zret C hr hlk (Or.inr rfl) dX7_isAsSeen_62 h
    · have h := h.2 q1
      refine V_iload_n C 3 dX7_isAsSeen_10 rfl ?_
      refine V_bipush (v := (6 : Int32)) C dX7_isAsSeen_11 (by decide) ?_
      refine V_icmp_ge C 61 dX7_isAsSeen_13 (by decide) (fun q2 => ?_) (fun q2 => ?_)
      · have h := h.1 q2
        refine V_iconst (v := (1 : Int32)) C dX7_isAsSeen_61 (by decide) ?_
        exact V_zret C hr hlk (Or.inr rfl) dX7_isAsSeen_62 h
      · have h := h.2 q2
        refine V_aload_n C 0 dX7_isAsSeen_16 rfl ?_
        refine V_get (k0 := 14) (Cn := RX2) (T := TX2) (N := 18) C (nsX_mem (by decide)) rfl iw_X7_isAsSeen_X2 (by decide) rfl m_X7_isAsSeen_f21 (ceX_3 _) rfl dX7_isAsSeen_17 ?_
        refine V_iload_n C 3 dX7_isAsSeen_20 rfl ?_
        have g3 := h.1
        have h := h.2
        refine V_iald (t0 := 1) (L := 6) C (nsX_mem (by decide)) (fun _ => rfl) rfl g3 dX7_isAsSeen_21 ?_
        refine V_iload_n C 1 dX7_isAsSeen_22 rfl ?_
        refine V_icmp_ne C 55 dX7_isAsSeen_23 (by decide) (fun q4 => ?_) (fun q4 => ?_)
        · have h := h.1 q4
          refine V_iinc (v := (v3 + 1)) (lv' := [(3, .int (v3 + 1)), (0, .ref (ad 3)), (1, .int v1), (2, .int v2)]) C 3 dX7_isAsSeen_55 rfl rfl (by decide) rfl ?_
          refine V_goto C 2 dX7_isAsSeen_58 (by decide) ?_
          refine V_drop (lv' := [(0, .ref (ad 3)), (1, .int v1), (2, .int v2), (3, .int (v3 + 1))]) [1, 2, 3, 0] rfl ?_
          exact ih v1 v2 (v3 + 1) M h 
        · have h := h.2 q4
          refine V_aload_n C 0 dX7_isAsSeen_26 rfl ?_
          refine V_get (k0 := 17) (Cn := RX2) (T := TX2) (N := 18) C (nsX_mem (by decide)) rfl iw_X7_isAsSeen_X2 (by decide) rfl m_X7_isAsSeen_f25 (ceX_3 _) rfl dX7_isAsSeen_27 ?_
          refine V_iload_n C 3 dX7_isAsSeen_30 rfl ?_
          refine V_iald (t0 := 1) (L := 6) C (nsX_mem (by decide)) (fun _ => rfl) rfl g3 dX7_isAsSeen_31 ?_
          refine V_aload_n C 0 dX7_isAsSeen_32 rfl ?_
          refine V_iload_n C 1 dX7_isAsSeen_33 rfl ?_
          refine V_aload_n C 0 dX7_isAsSeen_34 rfl ?_
          refine V_get (k0 := 15) (Cn := RX2) (T := TX2) (N := 18) C (nsX_mem (by decide)) rfl iw_X7_isAsSeen_X2 (by decide) rfl m_X7_isAsSeen_f28 (ceX_3 _) rfl dX7_isAsSeen_35 ?_
          refine V_iload_n C 3 dX7_isAsSeen_38 rfl ?_
          refine V_iald (t0 := 1) (L := 6) C (nsX_mem (by decide)) (fun _ => rfl) rfl g3 dX7_isAsSeen_39 ?_
          refine V_aload_n C 0 dX7_isAsSeen_40 rfl ?_
          refine V_get (k0 := 16) (Cn := RX2) (T := TX2) (N := 18) C (nsX_mem (by decide)) rfl iw_X7_isAsSeen_X2 (by decide) rfl m_X7_isAsSeen_f31 (ceX_3 _) rfl dX7_isAsSeen_41 ?_
          refine V_iload_n C 3 dX7_isAsSeen_44 rfl ?_
          refine V_iald (t0 := 1) (L := 6) C (nsX_mem (by decide)) (fun _ => rfl) rfl g3 dX7_isAsSeen_45 ?_
          refine V_iload_n C 2 dX7_isAsSeen_46 rfl ?_
          refine V_callVi (q := (RX2, TX2, 18)) (rest := [.int (M.1 21 v3.toNatClampNeg)]) C (nsX_mem (by decide)) (ceX_3 _) rfl (c_X2_stepsWithLies l D cy ad A G 3 (by decide) v1 (M.1 19 v3.toNatClampNeg) (M.1 20 v3.toNatClampNeg) v2 M _ h) (cwV 4 C.1.2.2.2.2 gX7_isAsSeen_X2_stepsWithLies rfl rfl rfl (by decide +kernel) ⟨by decide, by decide⟩) rfl rfl (Nat.le_of_ble_eq_true rfl) dX7_isAsSeen_47 (fun r5 M6 h => ?_)
          refine V_icmp_eq C 55 dX7_isAsSeen_50 (by decide) (fun q8 => ?_) (fun q8 => ?_)
          · have h := h.1 q8
            refine V_iinc (v := (v3 + 1)) (lv' := [(3, .int (v3 + 1)), (0, .ref (ad 3)), (1, .int v1), (2, .int v2)]) C 3 dX7_isAsSeen_55 rfl rfl (by decide) rfl ?_
            refine V_goto C 2 dX7_isAsSeen_58 (by decide) ?_
            refine V_drop (lv' := [(0, .ref (ad 3)), (1, .int v1), (2, .int v2), (3, .int (v3 + 1))]) [1, 2, 3, 0] rfl ?_
            exact ih v1 v2 (v3 + 1) M6 h 
          · have h := h.2 q8
            refine V_iconst (v := (0 : Int32)) C dX7_isAsSeen_53 (by decide) ?_
            exact V_zret C hr hlk (Or.inl rfl) dX7_isAsSeen_54 h
  unfold w_X7_isAsSeen at h
  refine V_iconst (v := (0 : Int32)) C dX7_isAsSeen_0 (by decide) ?_
  refine V_istore_n (lv' := [(3, .int (0 : Int32)), (0, .ref (ad 3)), (1, .int x1), (2, .int x2)]) C dX7_isAsSeen_1 rfl (by decide) rfl ?_
  refine V_drop (lv' := [(0, .ref (ad 3)), (1, .int x1), (2, .int x2), (3, .int (0 : Int32))]) [1, 2, 3, 0] rfl ?_
  obtain ⟨n0, h⟩ := h
  exact L2  n0 x1 x2 (0 : Int32) M h 
def w_X7_possibleLies_4  (post : Int32 → Mm → Prop)  : Nat → Int32 → Int32 → Int32 → Mm → Prop
  | 0 => fun _ _ _ _ => False
  | n + 1 => fun v1 v2 v3 M =>
    (((9 : Int32) < v3) → (post v2 M)) ∧ ((¬ (9 : Int32) < v3) → (w_X7_isAsSeen v1 v3 M (fun r2 M3 => ((r2 = 0) → (w_X7_possibleLies_4  post  n v1 v2 (v3 + 1) M3)) ∧ ((¬ r2 = 0) → (w_X7_possibleLies_4  post  n v1 (v2 ||| ((1 : Int32) <<< (v3 &&& 31))) (v3 + 1) M3)))))
def w_X7_possibleLies (x1 : Int32) (M : Mm) (post : Int32 → Mm → Prop) : Prop :=
  ∃ n0 : Nat, w_X7_possibleLies_4  post  n0 x1 (0 : Int32) (0 : Int32) M
set_option maxHeartbeats 4000000 in
set_option maxRecDepth 100000 in
theorem c_X7_possibleLies (l : Launch) (D : va_G) (cy : Nat → ClassId) (ad : Nat → Nat) (A : Nat → Prop) (G : Gd A ad nsX)   (x1 : Int32) (M : Mm) (post : Int32 → Mm → Prop) (h : w_X7_possibleLies x1 M post) : CI l yX7_possibleLies wsX7_possibleLies (rmL 6) D (tysC cy) A ad nsX (ceX ad cy) (ExX A ad) [.ref (ad 3), .int x1] M post := by
  refine Met_V (cc := cX7_possibleLies) (maxL := 4) (ret := (some .int)) (by decide) rfl G Lo_X ExX_ok (Nat.le_of_ble_eq_true rfl) rfl ?_
  intro p e s m args below meth c C hr hlk
  have C : Cx p s m args c cX7_possibleLies 4 RX7 wsX7_possibleLies D (tysC cy) A ad nsX (ceX ad cy) (ExX A ad) := C
  have L4 : ∀  (n : Nat) (v1 : Int32) (v2 : Int32) (v3 : Int32) (M : Mm), w_X7_possibleLies_4  post  n v1 v2 v3 M → V p l e (rmL 6) s m args below meth c (MQ below (va_Qi post (Wd D (tysC cy) ad nsX (ceX ad cy) (ExX A ad)) A) args s 0 0 A) D A ad nsX (ceX ad cy) 4 M [(0, .ref (ad 3)), (1, .int v1), (2, .int v2), (3, .int v3)] 4 [] := by
    intro  n
    induction n with
    | zero => intro v1 v2 v3 M h; exact h.elim
    | succ n ih =>
    intro v1 v2 v3 M h 
    unfold w_X7_possibleLies_4 at h
    refine V_iload_n C 3 dX7_possibleLies_4 rfl ?_
    refine V_bipush (v := (9 : Int32)) C dX7_possibleLies_5 (by decide) ?_
    refine V_icmp_gt C 31 dX7_possibleLies_7 (by decide) (fun q1 => ?_) (fun q1 => ?_)
    · have h := h.1 q1
      refine V_iload_n C 2 dX7_possibleLies_31 rfl ?_
      exact V_iret C hr hlk dX7_possibleLies_32 h
    · have h := h.2 q1
      refine V_aload_n C 0 dX7_possibleLies_10 rfl ?_
      refine V_iload_n C 1 dX7_possibleLies_11 rfl ?_
      refine V_iload_n C 3 dX7_possibleLies_12 rfl ?_
      refine V_callSi (rest := []) C (c_X7_isAsSeen l D cy ad A G v1 v3 M _ h) (va_cwS 3 C.1.2.2.2.2 gX7_possibleLies_X7_isAsSeen rfl rfl rfl (by decide +kernel) ⟨by decide, by decide⟩) rfl rfl (Nat.le_of_ble_eq_true rfl) dX7_possibleLies_13 (fun r2 M3 h => ?_)
      obtain ⟨z4, h⟩ := h
      refine V_if_eq C 25 dX7_possibleLies_16 (by decide) (fun q5 => ?_) (fun q5 => ?_)
      · have h := h.1 q5
        refine V_iinc (v := (v3 + 1)) (lv' := [(3, .int (v3 + 1)), (0, .ref (ad 3)), (1, .int v1), (2, .int v2)]) C 3 dX7_possibleLies_25 rfl rfl (by decide) rfl ?_
        refine V_goto C 4 dX7_possibleLies_28 (by decide) ?_
        refine V_drop (lv' := [(0, .ref (ad 3)), (1, .int v1), (2, .int v2), (3, .int (v3 + 1))]) [1, 2, 3, 0] rfl ?_
        exact ih v1 v2 (v3 + 1) M3 h 
      · have h := h.2 q5
        refine V_iload_n C 2 dX7_possibleLies_19 rfl ?_
        refine V_iconst (v := (1 : Int32)) C dX7_possibleLies_20 (by decide) ?_
        refine V_iload_n C 3 dX7_possibleLies_21 rfl ?_
        refine V_ishl C dX7_possibleLies_22 ?_
        refine V_ior C dX7_possibleLies_23 ?_
        refine V_istore_n (lv' := [(2, .int (v2 ||| ((1 : Int32) <<< (v3 &&& 31)))), (0, .ref (ad 3)), (1, .int v1), (3, .int v3)]) C dX7_possibleLies_24 rfl (by decide) rfl ?_
        refine V_iinc (v := (v3 + 1)) (lv' := [(3, .int (v3 + 1)), (2, .int (v2 ||| ((1 : Int32) <<< (v3 &&& 31)))), (0, .ref (ad 3)), (1, .int v1)]) C 3 dX7_possibleLies_25 rfl rfl (by decide) rfl ?_
        refine V_goto C 4 dX7_possibleLies_28 (by decide) ?_
        refine V_drop (lv' := [(0, .ref (ad 3)), (1, .int v1), (2, .int (v2 ||| ((1 : Int32) <<< (v3 &&& 31)))), (3, .int (v3 + 1))]) [2, 3, 1, 0] rfl ?_
        exact ih v1 (v2 ||| ((1 : Int32) <<< (v3 &&& 31))) (v3 + 1) M3 h 
  unfold w_X7_possibleLies at h
  refine V_iconst (v := (0 : Int32)) C dX7_possibleLies_0 (by decide) ?_
  refine V_istore_n (lv' := [(2, .int (0 : Int32)), (0, .ref (ad 3)), (1, .int x1)]) C dX7_possibleLies_1 rfl (by decide) rfl ?_
  refine V_iconst (v := (0 : Int32)) C dX7_possibleLies_2 (by decide) ?_
  refine V_istore_n (lv' := [(3, .int (0 : Int32)), (2, .int (0 : Int32)), (0, .ref (ad 3)), (1, .int x1)]) C dX7_possibleLies_3 rfl (by decide) rfl ?_
  refine V_drop (lv' := [(0, .ref (ad 3)), (1, .int x1), (2, .int (0 : Int32)), (3, .int (0 : Int32))]) [2, 3, 1, 0] rfl ?_
  obtain ⟨n0, h⟩ := h
  exact L4  n0 x1 (0 : Int32) (0 : Int32) M h 
def w_X7_leftAtWorst_55  (post : Int32 → Mm → Prop) (k12 : Int32 → Int32 → Int32 → Int32 → Int32 → Int32 → Int32 → Int32 → Mm → Prop) (v1 : Int32) (v2 : Int32) (v3 : Int32) (v4 : Int32) (v5 : Int32) (v8 : Int32) (v9 : Int32) (s0 : Int32) (M : Mm) : Prop :=
    k12 v1 v2 v3 v4 (if v5 < s0 then s0 else v5) s0 v9 (v8 + 1) M
def w_X7_leftAtWorst_12  (post : Int32 → Mm → Prop)  : Nat → Int32 → Int32 → Int32 → Int32 → Int32 → Int32 → Int32 → Int32 → Mm → Prop
  | 0 => fun _ _ _ _ _ _ _ _ _ => False
  | n + 1 => fun v1 v2 v3 v4 v5 v6 v7 v8 M =>
    (((9 : Int32) < v8) → (post v5 M)) ∧ ((¬ (9 : Int32) < v8) → (((((v4 >>> (v8 &&& 31)) &&& (1 : Int32)) = 0) → (w_X7_leftAtWorst_12  post  n v1 v2 v3 v4 v5 v6 v7 (v8 + 1) M)) ∧ ((¬ ((v4 >>> (v8 &&& 31)) &&& (1 : Int32)) = 0) → (w_X2_stepsWithLies 3 v1 v2 v3 v8 M (fun r3 M4 => ((¬ r3 = v7) → (w_X7_leftAtWorst_55  post (w_X7_leftAtWorst_12  post  n) v1 v2 v3 v4 v5 v8 r3 (1 : Int32) M4)) ∧ ((r3 = v7) → (w_X7_leftAtWorst_55  post (w_X7_leftAtWorst_12  post  n) v1 v2 v3 v4 v5 v8 r3 (v6 + (1 : Int32)) M4)))))))
def w_X7_leftAtWorst (x1 : Int32) (x2 : Int32) (x3 : Int32) (x4 : Int32) (M : Mm) (post : Int32 → Mm → Prop) : Prop :=
  ∃ n0 : Nat, w_X7_leftAtWorst_12  post  n0 x1 x2 x3 x4 (0 : Int32) (0 : Int32) (-1 : Int32) (0 : Int32) M
theorem m_X7_leftAtWorst_l48 : Cond.methodLink RX7 48 Lib.Math.max.name ∈ wsX7_leftAtWorst := by decide +kernel
theorem m_X7_leftAtWorst_smax : Cond.static Lib.Math.max.name ∈ wsX7_leftAtWorst := by decide +kernel
theorem m_X7_leftAtWorst_imath : Cond.initialized "java/lang/Math" ∈ wsX7_leftAtWorst := by decide +kernel
theorem m_X7_leftAtWorst_kmax : Cond.code Lib.Math.max.name Lib.Math.max.code 2 (some .int) ∈ wsX7_leftAtWorst := by decide +kernel
set_option maxHeartbeats 4000000 in
set_option maxRecDepth 100000 in
theorem c_X7_leftAtWorst (l : Launch) (D : va_G) (cy : Nat → ClassId) (ad : Nat → Nat) (A : Nat → Prop) (G : Gd A ad nsX)   (x1 : Int32) (x2 : Int32) (x3 : Int32) (x4 : Int32) (M : Mm) (post : Int32 → Mm → Prop) (h : w_X7_leftAtWorst x1 x2 x3 x4 M post) : CI l yX7_leftAtWorst wsX7_leftAtWorst (rmL 5) D (tysC cy) A ad nsX (ceX ad cy) (ExX A ad) [.ref (ad 3), .int x1, .int x2, .int x3, .int x4] M post := by
  refine Met_V (cc := cX7_leftAtWorst) (maxL := 10) (ret := (some .int)) (by decide) rfl G Lo_X ExX_ok (Nat.le_of_ble_eq_true rfl) rfl ?_
  intro p e s m args below meth c C hr hlk
  have C : Cx p s m args c cX7_leftAtWorst 10 RX7 wsX7_leftAtWorst D (tysC cy) A ad nsX (ceX ad cy) (ExX A ad) := C
  have L55 : ∀ (k12 : Int32 → Int32 → Int32 → Int32 → Int32 → Int32 → Int32 → Int32 → Mm → Prop) (hk12 : ∀ (v1 : Int32) (v2 : Int32) (v3 : Int32) (v4 : Int32) (v5 : Int32) (v6 : Int32) (v7 : Int32) (v8 : Int32) (M : Mm), k12 v1 v2 v3 v4 v5 v6 v7 v8 M → V p l e (rmL 5) s m args below meth c (MQ below (va_Qi post (Wd D (tysC cy) ad nsX (ceX ad cy) (ExX A ad)) A) args s 0 0 A) D A ad nsX (ceX ad cy) 10 M [(0, .ref (ad 3)), (1, .int v1), (2, .int v2), (3, .int v3), (4, .int v4), (5, .int v5), (6, .int v6), (7, .int v7), (8, .int v8)] 12 []) (v1 : Int32) (v2 : Int32) (v3 : Int32) (v4 : Int32) (v5 : Int32) (v8 : Int32) (v9 : Int32) (s0 : Int32) (M : Mm), w_X7_leftAtWorst_55  post k12 v1 v2 v3 v4 v5 v8 v9 s0 M → V p l e (rmL 5) s m args below meth c (MQ below (va_Qi post (Wd D (tysC cy) ad nsX (ceX ad cy) (ExX A ad)) A) args s 0 0 A) D A ad nsX (ceX ad cy) 10 M [(0, .ref (ad 3)), (1, .int v1), (2, .int v2), (3, .int v3), (4, .int v4), (5, .int v5), (8, .int v8), (9, .int v9)] 55 [.int s0] := by
    intro k12 hk12 v1 v2 v3 v4 v5 v8 v9 s0 M h 
    unfold w_X7_leftAtWorst_55 at h
    refine V_istore (lv' := [(6, .int s0), (0, .ref (ad 3)), (1, .int v1), (2, .int v2), (3, .int v3), (4, .int v4), (5, .int v5), (8, .int v8), (9, .int v9)]) C dX7_leftAtWorst_55 (by decide) rfl ?_
    refine V_iload C 8 dX7_leftAtWorst_57 rfl ?_
    refine V_istore (lv' := [(7, .int v9), (6, .int s0), (0, .ref (ad 3)), (1, .int v1), (2, .int v2), (3, .int v3), (4, .int v4), (5, .int v5), (8, .int v8), (9, .int v9)]) C dX7_leftAtWorst_59 (by decide) rfl ?_
    refine V_iload C 7 dX7_leftAtWorst_61 rfl ?_
    refine V_iload C 1 dX7_leftAtWorst_63 rfl ?_
    refine V_mmax C m_X7_leftAtWorst_l48 m_X7_leftAtWorst_smax m_X7_leftAtWorst_imath m_X7_leftAtWorst_kmax (by decide) (Nat.le_of_ble_eq_true rfl) dX7_leftAtWorst_65 ?_
    refine V_istore (lv' := [(5, .int (if v5 < s0 then s0 else v5)), (7, .int v9), (6, .int s0), (0, .ref (ad 3)), (1, .int v1), (2, .int v2), (3, .int v3), (4, .int v4), (8, .int v8), (9, .int v9)]) C dX7_leftAtWorst_68 (by decide) rfl ?_
    refine V_iinc (v := (v8 + 1)) (lv' := [(8, .int (v8 + 1)), (5, .int (if v5 < s0 then s0 else v5)), (7, .int v9), (6, .int s0), (0, .ref (ad 3)), (1, .int v1), (2, .int v2), (3, .int v3), (4, .int v4), (9, .int v9)]) C 8 dX7_leftAtWorst_70 rfl rfl (by decide) rfl ?_
    refine V_goto C 12 dX7_leftAtWorst_73 (by decide) ?_
    refine V_drop (lv' := [(0, .ref (ad 3)), (1, .int v1), (2, .int v2), (3, .int v3), (4, .int v4), (5, .int (if v5 < s0 then s0 else v5)), (6, .int s0), (7, .int v9), (8, .int (v8 + 1))]) [4, 5, 6, 7, 8, 1, 3, 2, 0] rfl ?_
    exact hk12 v1 v2 v3 v4 (if v5 < s0 then s0 else v5) s0 v9 (v8 + 1) M h 
  have L12 : ∀  (n : Nat) (v1 : Int32) (v2 : Int32) (v3 : Int32) (v4 : Int32) (v5 : Int32) (v6 : Int32) (v7 : Int32) (v8 : Int32) (M : Mm), w_X7_leftAtWorst_12  post  n v1 v2 v3 v4 v5 v6 v7 v8 M → V p l e (rmL 5) s m args below meth c (MQ below (va_Qi post (Wd D (tysC cy) ad nsX (ceX ad cy) (ExX A ad)) A) args s 0 0 A) D A ad nsX (ceX ad cy) 10 M [(0, .ref (ad 3)), (1, .int v1), (2, .int v2), (3, .int v3), (4, .int v4), (5, .int v5), (6, .int v6), (7, .int v7), (8, .int v8)] 12 [] := by
    intro  n
    induction n with
    | zero => intro v1 v2 v3 v4 v5 v6 v7 v8 M h; exact h.elim
    | succ n ih =>
    intro v1 v2 v3 v4 v5 v6 v7 v8 M h 
    unfold w_X7_leftAtWorst_12 at h
    refine V_iload C 8 dX7_leftAtWorst_12 rfl ?_
    refine V_bipush (v := (9 : Int32)) C dX7_leftAtWorst_14 (by decide) ?_
    refine V_icmp_gt C 76 dX7_leftAtWorst_16 (by decide) (fun q1 => ?_) (fun q1 => ?_)
    · have h := h.1 q1
      refine V_iload C 5 dX7_leftAtWorst_76 rfl ?_
      exact V_iret C hr hlk dX7_leftAtWorst_78 h
    · have h := h.2 q1
      refine V_iload C 4 dX7_leftAtWorst_19 rfl ?_
      refine V_iload C 8 dX7_leftAtWorst_21 rfl ?_
      refine V_ishr C dX7_leftAtWorst_23 ?_
      refine V_iconst (v := (1 : Int32)) C dX7_leftAtWorst_24 (by decide) ?_
      refine V_iand C dX7_leftAtWorst_25 ?_
      refine V_if_eq C 70 dX7_leftAtWorst_26 (by decide) (fun q2 => ?_) (fun q2 => ?_)
      · have h := h.1 q2
        refine V_iinc (v := (v8 + 1)) (lv' := [(8, .int (v8 + 1)), (0, .ref (ad 3)), (1, .int v1), (2, .int v2), (3, .int v3), (4, .int v4), (5, .int v5), (6, .int v6), (7, .int v7)]) C 8 dX7_leftAtWorst_70 rfl rfl (by decide) rfl ?_
        refine V_goto C 12 dX7_leftAtWorst_73 (by decide) ?_
        refine V_drop (lv' := [(0, .ref (ad 3)), (1, .int v1), (2, .int v2), (3, .int v3), (4, .int v4), (5, .int v5), (6, .int v6), (7, .int v7), (8, .int (v8 + 1))]) [1, 2, 3, 4, 5, 6, 7, 8, 0] rfl ?_
        exact ih v1 v2 v3 v4 v5 v6 v7 (v8 + 1) M h 
      · have h := h.2 q2
        refine V_aload_n C 0 dX7_leftAtWorst_29 rfl ?_
        refine V_iload_n C 1 dX7_leftAtWorst_30 rfl ?_
        refine V_iload_n C 2 dX7_leftAtWorst_31 rfl ?_
        refine V_iload_n C 3 dX7_leftAtWorst_32 rfl ?_
        refine V_iload C 8 dX7_leftAtWorst_33 rfl ?_
        refine V_callVi (q := (RX2, TX2, 18)) (rest := []) C (nsX_mem (by decide)) (ceX_3 _) rfl (c_X2_stepsWithLies l D cy ad A G 3 (by decide) v1 v2 v3 v8 M _ h) (cwV 4 C.1.2.2.2.2 gX7_leftAtWorst_X2_stepsWithLies rfl rfl rfl (by decide +kernel) ⟨by decide, by decide⟩) rfl rfl (Nat.le_of_ble_eq_true rfl) dX7_leftAtWorst_35 (fun r3 M4 h => ?_)
        refine V_istore (lv' := [(9, .int r3), (0, .ref (ad 3)), (1, .int v1), (2, .int v2), (3, .int v3), (4, .int v4), (5, .int v5), (6, .int v6), (7, .int v7), (8, .int v8)]) C dX7_leftAtWorst_38 (by decide) rfl ?_
        refine V_iload C 0 dX7_leftAtWorst_40 rfl ?_
        refine V_iload C 8 dX7_leftAtWorst_42 rfl ?_
        refine V_icmp_ne C 54 dX7_leftAtWorst_44 (by decide) (fun q6 => ?_) (fun q6 => ?_)
        · have h := h.1 q6
          refine V_iconst (v := (1 : Int32)) C dX7_leftAtWorst_54 (by decide) ?_
          refine V_drop (lv' := [(0, .ref (ad 3)), (1, .int v1), (2, .int v2), (3, .int v3), (4, .int v4), (5, .int v5), (8, .int v8), (9, .int r3)]) [1, 2, 3, 4, 5, 6, 9, 0] rfl ?_
          exact L55 (w_X7_leftAtWorst_12  post  n) ih v1 v2 v3 v4 v5 v8 r3 (1 : Int32) M4 h 
        · have h := h.2 q6
          refine V_iload C 7 dX7_leftAtWorst_47 rfl ?_
          refine V_iconst (v := (1 : Int32)) C dX7_leftAtWorst_49 (by decide) ?_
          refine V_iadd C dX7_leftAtWorst_50 ?_
          refine V_goto C 55 dX7_leftAtWorst_51 (by decide) ?_
          refine V_drop (lv' := [(0, .ref (ad 3)), (1, .int v1), (2, .int v2), (3, .int v3), (4, .int v4), (5, .int v5), (8, .int v8), (9, .int r3)]) [1, 2, 3, 4, 5, 6, 9, 0] rfl ?_
          exact L55 (w_X7_leftAtWorst_12  post  n) ih v1 v2 v3 v4 v5 v8 r3 (v6 + (1 : Int32)) M4 h 
  unfold w_X7_leftAtWorst at h
  refine V_iconst (v := (0 : Int32)) C dX7_leftAtWorst_0 (by decide) ?_
  refine V_istore (lv' := [(5, .int (0 : Int32)), (0, .ref (ad 3)), (1, .int x1), (2, .int x2), (3, .int x3), (4, .int x4)]) C dX7_leftAtWorst_1 (by decide) rfl ?_
  refine V_iconst (v := (0 : Int32)) C dX7_leftAtWorst_3 (by decide) ?_
  refine V_istore (lv' := [(6, .int (0 : Int32)), (5, .int (0 : Int32)), (0, .ref (ad 3)), (1, .int x1), (2, .int x2), (3, .int x3), (4, .int x4)]) C dX7_leftAtWorst_4 (by decide) rfl ?_
  refine V_iconst (v := (-1 : Int32)) C dX7_leftAtWorst_6 (by decide) ?_
  refine V_istore (lv' := [(7, .int (-1 : Int32)), (6, .int (0 : Int32)), (5, .int (0 : Int32)), (0, .ref (ad 3)), (1, .int x1), (2, .int x2), (3, .int x3), (4, .int x4)]) C dX7_leftAtWorst_7 (by decide) rfl ?_
  refine V_iconst (v := (0 : Int32)) C dX7_leftAtWorst_9 (by decide) ?_
  refine V_istore (lv' := [(8, .int (0 : Int32)), (7, .int (-1 : Int32)), (6, .int (0 : Int32)), (5, .int (0 : Int32)), (0, .ref (ad 3)), (1, .int x1), (2, .int x2), (3, .int x3), (4, .int x4)]) C dX7_leftAtWorst_10 (by decide) rfl ?_
  refine V_drop (lv' := [(0, .ref (ad 3)), (1, .int x1), (2, .int x2), (3, .int x3), (4, .int x4), (5, .int (0 : Int32)), (6, .int (0 : Int32)), (7, .int (-1 : Int32)), (8, .int (0 : Int32))]) [4, 5, 6, 7, 8, 3, 2, 1, 0] rfl ?_
  obtain ⟨n0, h⟩ := h
  exact L12  n0 x1 x2 x3 x4 (0 : Int32) (0 : Int32) (-1 : Int32) (0 : Int32) M h 
def w_X7_bestQuestion_27  (post : Int32 → Mm → Prop) (k15 : Int32 → Int32 → Int32 → Int32 → Int32 → Mm → Prop) : Nat → Int32 → Int32 → Int32 → Int32 → Int32 → Int32 → Mm → Prop
  | 0 => fun _ _ _ _ _ _ _ => False
  | n + 1 => fun v1 v2 v3 v4 v5 v6 M =>
    (((M.1 3 3) ≤ v6) → (k15 v1 v2 v3 v4 (v5 + 1) M)) ∧ ((¬ (M.1 3 3) ≤ v6) → (((¬ v6 = v1) → (w_X7_leftAtWorst v1 v5 v6 v2 M (fun r3 M4 => ((v4 ≤ r3) → (w_X7_bestQuestion_27  post k15 n v1 v2 v3 v4 v5 (v6 + 1) M4)) ∧ ((¬ v4 ≤ r3) → (w_X7_bestQuestion_27  post k15 n v1 v2 ((((10 : Int32) * v5) + v6) + (1 : Int32)) r3 v5 (v6 + 1) M4))))) ∧ ((v6 = v1) → (w_X7_bestQuestion_27  post k15 n v1 v2 v3 v4 v5 (v6 + 1) M))))
def w_X7_bestQuestion_15  (post : Int32 → Mm → Prop)  : Nat → Int32 → Int32 → Int32 → Int32 → Int32 → Mm → Prop
  | 0 => fun _ _ _ _ _ _ => False
  | n + 1 => fun v1 v2 v3 v4 v5 M =>
    (((M.1 3 2) ≤ v5) → (post v3 M)) ∧ ((¬ (M.1 3 2) ≤ v5) → (∃ n0 : Nat, w_X7_bestQuestion_27  post (w_X7_bestQuestion_15  post  n) n0 v1 v2 v3 v4 v5 (-1 : Int32) M))
def w_X7_bestQuestion (x1 : Int32) (x2 : Int32) (M : Mm) (post : Int32 → Mm → Prop) : Prop :=
  ((¬ x2 = 0) → (∃ n0 : Nat, w_X7_bestQuestion_15  post  n0 x1 x2 (-1 : Int32) (11 : Int32) (0 : Int32) M)) ∧ ((x2 = 0) → (post (-1 : Int32) M))
theorem iw_X7_bestQuestion_X2 : ∀ w ∈ u_ws RX2 TX2 18, w ∈ wsX7_bestQuestion := by decide +kernel
theorem m_X7_bestQuestion_f41 : Cond.fieldLink RX7 41 "ShameYards$House" "peopleCount" "I" ∈ wsX7_bestQuestion := by decide +kernel
theorem m_X7_bestQuestion_f38 : Cond.fieldLink RX7 38 "ShameYards$House" "passageCount" "I" ∈ wsX7_bestQuestion := by decide +kernel
set_option maxHeartbeats 4000000 in
set_option maxRecDepth 100000 in
theorem c_X7_bestQuestion (l : Launch) (D : va_G) (cy : Nat → ClassId) (ad : Nat → Nat) (A : Nat → Prop) (G : Gd A ad nsX)   (x1 : Int32) (x2 : Int32) (M : Mm) (post : Int32 → Mm → Prop) (h : w_X7_bestQuestion x1 x2 M post) : CI l yX7_bestQuestion wsX7_bestQuestion (rmL 6) D (tysC cy) A ad nsX (ceX ad cy) (ExX A ad) [.ref (ad 3), .int x1, .int x2] M post := by
  refine Met_V (cc := cX7_bestQuestion) (maxL := 8) (ret := (some .int)) (by decide) rfl G Lo_X ExX_ok (Nat.le_of_ble_eq_true rfl) rfl ?_
  intro p e s m args below meth c C hr hlk
  have C : Cx p s m args c cX7_bestQuestion 8 RX7 wsX7_bestQuestion D (tysC cy) A ad nsX (ceX ad cy) (ExX A ad) := C
  have L27 : ∀ (k15 : Int32 → Int32 → Int32 → Int32 → Int32 → Mm → Prop) (hk15 : ∀ (v1 : Int32) (v2 : Int32) (v3 : Int32) (v4 : Int32) (v5 : Int32) (M : Mm), k15 v1 v2 v3 v4 v5 M → V p l e (rmL 6) s m args below meth c (MQ below (va_Qi post (Wd D (tysC cy) ad nsX (ceX ad cy) (ExX A ad)) A) args s 0 0 A) D A ad nsX (ceX ad cy) 8 M [(0, .ref (ad 3)), (1, .int v1), (2, .int v2), (3, .int v3), (4, .int v4), (5, .int v5)] 15 []) (n : Nat) (v1 : Int32) (v2 : Int32) (v3 : Int32) (v4 : Int32) (v5 : Int32) (v6 : Int32) (M : Mm), w_X7_bestQuestion_27  post k15 n v1 v2 v3 v4 v5 v6 M → V p l e (rmL 6) s m args below meth c (MQ below (va_Qi post (Wd D (tysC cy) ad nsX (ceX ad cy) (ExX A ad)) A) args s 0 0 A) D A ad nsX (ceX ad cy) 8 M [(0, .ref (ad 3)), (1, .int v1), (2, .int v2), (3, .int v3), (4, .int v4), (5, .int v5), (6, .int v6)] 27 [] := by
    intro k15 hk15 n
    induction n with
    | zero => intro v1 v2 v3 v4 v5 v6 M h; exact h.elim
    | succ n ih =>
    intro v1 v2 v3 v4 v5 v6 M h 
    unfold w_X7_bestQuestion_27 at h
    refine V_iload C 6 dX7_bestQuestion_27 rfl ?_
    refine V_aload_n C 0 dX7_bestQuestion_29 rfl ?_
    refine V_get (k0 := 3) (Cn := RX2) (T := TX2) (N := 18) C (nsX_mem (by decide)) rfl iw_X7_bestQuestion_X2 (by decide) rfl m_X7_bestQuestion_f41 (ceX_3 _) rfl dX7_bestQuestion_30 ?_
    refine V_icmp_ge C 85 dX7_bestQuestion_33 (by decide) (fun q1 => ?_) (fun q1 => ?_)
    · have h := h.1 q1
      refine V_iinc (v := (v5 + 1)) (lv' := [(5, .int (v5 + 1)), (0, .ref (ad 3)), (1, .int v1), (2, .int v2), (3, .int v3), (4, .int v4), (6, .int v6)]) C 5 dX7_bestQuestion_85 rfl rfl (by decide) rfl ?_
      refine V_goto C 15 dX7_bestQuestion_88 (by decide) ?_
      refine V_drop (lv' := [(0, .ref (ad 3)), (1, .int v1), (2, .int v2), (3, .int v3), (4, .int v4), (5, .int (v5 + 1))]) [1, 2, 3, 4, 5, 0] rfl ?_
      exact hk15 v1 v2 v3 v4 (v5 + 1) M h 
    · have h := h.2 q1
      refine V_iload C 6 dX7_bestQuestion_36 rfl ?_
      refine V_iload_n C 1 dX7_bestQuestion_38 rfl ?_
      refine V_icmp_ne C 45 dX7_bestQuestion_39 (by decide) (fun q2 => ?_) (fun q2 => ?_)
      · have h := h.1 q2
        refine V_aload_n C 0 dX7_bestQuestion_45 rfl ?_
        refine V_iload_n C 1 dX7_bestQuestion_46 rfl ?_
        refine V_iload C 5 dX7_bestQuestion_47 rfl ?_
        refine V_iload C 6 dX7_bestQuestion_49 rfl ?_
        refine V_iload_n C 2 dX7_bestQuestion_51 rfl ?_
        refine V_callSi (rest := []) C (c_X7_leftAtWorst l D cy ad A G v1 v5 v6 v2 M _ h) (va_cwS 5 C.1.2.2.2.2 gX7_bestQuestion_X7_leftAtWorst rfl rfl rfl (by decide +kernel) ⟨by decide, by decide⟩) rfl rfl (Nat.le_of_ble_eq_true rfl) dX7_bestQuestion_52 (fun r3 M4 h => ?_)
        refine V_istore (lv' := [(7, .int r3), (0, .ref (ad 3)), (1, .int v1), (2, .int v2), (3, .int v3), (4, .int v4), (5, .int v5), (6, .int v6)]) C dX7_bestQuestion_55 (by decide) rfl ?_
        refine V_iload C 0 dX7_bestQuestion_57 rfl ?_
        refine V_iload C 5 dX7_bestQuestion_59 rfl ?_
        refine V_icmp_ge C 79 dX7_bestQuestion_61 (by decide) (fun q6 => ?_) (fun q6 => ?_)
        · have h := h.1 q6
          refine V_iinc (v := (v6 + 1)) (lv' := [(6, .int (v6 + 1)), (7, .int r3), (0, .ref (ad 3)), (1, .int v1), (2, .int v2), (3, .int v3), (4, .int v4), (5, .int v5)]) C 7 dX7_bestQuestion_79 rfl rfl (by decide) rfl ?_
          refine V_goto C 27 dX7_bestQuestion_82 (by decide) ?_
          refine V_drop (lv' := [(0, .ref (ad 3)), (1, .int v1), (2, .int v2), (3, .int v3), (4, .int v4), (5, .int v5), (6, .int (v6 + 1))]) [2, 3, 4, 5, 6, 7, 0] rfl ?_
          exact ih v1 v2 v3 v4 v5 (v6 + 1) M4 h 
        · have h := h.2 q6
          refine V_iload C 0 dX7_bestQuestion_64 rfl ?_
          refine V_istore (lv' := [(4, .int r3), (7, .int r3), (0, .ref (ad 3)), (1, .int v1), (2, .int v2), (3, .int v3), (5, .int v5), (6, .int v6)]) C dX7_bestQuestion_66 (by decide) rfl ?_
          refine V_bipush (v := (10 : Int32)) C dX7_bestQuestion_68 (by decide) ?_
          refine V_iload C 6 dX7_bestQuestion_70 rfl ?_
          refine V_imul C dX7_bestQuestion_72 ?_
          refine V_iload C 7 dX7_bestQuestion_73 rfl ?_
          refine V_iadd C dX7_bestQuestion_75 ?_
          refine V_iconst (v := (1 : Int32)) C dX7_bestQuestion_76 (by decide) ?_
          refine V_iadd C dX7_bestQuestion_77 ?_
          refine V_istore_n (lv' := [(3, .int ((((10 : Int32) * v5) + v6) + (1 : Int32))), (4, .int r3), (7, .int r3), (0, .ref (ad 3)), (1, .int v1), (2, .int v2), (5, .int v5), (6, .int v6)]) C dX7_bestQuestion_78 rfl (by decide) rfl ?_
          refine V_iinc (v := (v6 + 1)) (lv' := [(6, .int (v6 + 1)), (3, .int ((((10 : Int32) * v5) + v6) + (1 : Int32))), (4, .int r3), (7, .int r3), (0, .ref (ad 3)), (1, .int v1), (2, .int v2), (5, .int v5)]) C 7 dX7_bestQuestion_79 rfl rfl (by decide) rfl ?_
          refine V_goto C 27 dX7_bestQuestion_82 (by decide) ?_
          refine V_drop (lv' := [(0, .ref (ad 3)), (1, .int v1), (2, .int v2), (3, .int ((((10 : Int32) * v5) + v6) + (1 : Int32))), (4, .int r3), (5, .int v5), (6, .int (v6 + 1))]) [4, 5, 6, 1, 2, 7, 0] rfl ?_
          exact ih v1 v2 ((((10 : Int32) * v5) + v6) + (1 : Int32)) r3 v5 (v6 + 1) M4 h 
      · have h := h.2 q2
        refine V_goto C 79 dX7_bestQuestion_42 (by decide) ?_
        refine V_iinc (v := (v6 + 1)) (lv' := [(6, .int (v6 + 1)), (0, .ref (ad 3)), (1, .int v1), (2, .int v2), (3, .int v3), (4, .int v4), (5, .int v5)]) C 6 dX7_bestQuestion_79 rfl rfl (by decide) rfl ?_
        refine V_goto C 27 dX7_bestQuestion_82 (by decide) ?_
        refine V_drop (lv' := [(0, .ref (ad 3)), (1, .int v1), (2, .int v2), (3, .int v3), (4, .int v4), (5, .int v5), (6, .int (v6 + 1))]) [1, 2, 3, 4, 5, 6, 0] rfl ?_
        exact ih v1 v2 v3 v4 v5 (v6 + 1) M h 
  have L15 : ∀  (n : Nat) (v1 : Int32) (v2 : Int32) (v3 : Int32) (v4 : Int32) (v5 : Int32) (M : Mm), w_X7_bestQuestion_15  post  n v1 v2 v3 v4 v5 M → V p l e (rmL 6) s m args below meth c (MQ below (va_Qi post (Wd D (tysC cy) ad nsX (ceX ad cy) (ExX A ad)) A) args s 0 0 A) D A ad nsX (ceX ad cy) 8 M [(0, .ref (ad 3)), (1, .int v1), (2, .int v2), (3, .int v3), (4, .int v4), (5, .int v5)] 15 [] := by
    intro  n
    induction n with
    | zero => intro v1 v2 v3 v4 v5 M h; exact h.elim
    | succ n ih =>
    intro v1 v2 v3 v4 v5 M h 
    unfold w_X7_bestQuestion_15 at h
    refine V_iload C 5 dX7_bestQuestion_15 rfl ?_
    refine V_aload_n C 0 dX7_bestQuestion_17 rfl ?_
    refine V_get (k0 := 2) (Cn := RX2) (T := TX2) (N := 18) C (nsX_mem (by decide)) rfl iw_X7_bestQuestion_X2 (by decide) rfl m_X7_bestQuestion_f38 (ceX_3 _) rfl dX7_bestQuestion_18 ?_
    refine V_icmp_ge C 91 dX7_bestQuestion_21 (by decide) (fun q7 => ?_) (fun q7 => ?_)
    · have h := h.1 q7
      refine V_iload_n C 3 dX7_bestQuestion_91 rfl ?_
      exact V_iret C hr hlk dX7_bestQuestion_92 h
    · have h := h.2 q7
      refine V_iconst (v := (-1 : Int32)) C dX7_bestQuestion_24 (by decide) ?_
      refine V_istore (lv' := [(6, .int (-1 : Int32)), (0, .ref (ad 3)), (1, .int v1), (2, .int v2), (3, .int v3), (4, .int v4), (5, .int v5)]) C dX7_bestQuestion_25 (by decide) rfl ?_
      refine V_drop (lv' := [(0, .ref (ad 3)), (1, .int v1), (2, .int v2), (3, .int v3), (4, .int v4), (5, .int v5), (6, .int (-1 : Int32))]) [1, 2, 3, 4, 5, 6, 0] rfl ?_
      obtain ⟨n0, h⟩ := h
      exact L27 (w_X7_bestQuestion_15  post  n) ih n0 v1 v2 v3 v4 v5 (-1 : Int32) M h 
  unfold w_X7_bestQuestion at h
  refine V_iload_n C 2 dX7_bestQuestion_0 rfl ?_
  refine V_if_ne C 6 dX7_bestQuestion_1 (by decide) (fun q8 => ?_) (fun q8 => ?_)
  · have h := h.1 q8
    refine V_iconst (v := (-1 : Int32)) C dX7_bestQuestion_6 (by decide) ?_
    refine V_istore_n (lv' := [(3, .int (-1 : Int32)), (0, .ref (ad 3)), (1, .int x1), (2, .int x2)]) C dX7_bestQuestion_7 rfl (by decide) rfl ?_
    refine V_bipush (v := (11 : Int32)) C dX7_bestQuestion_8 (by decide) ?_
    refine V_istore (lv' := [(4, .int (11 : Int32)), (3, .int (-1 : Int32)), (0, .ref (ad 3)), (1, .int x1), (2, .int x2)]) C dX7_bestQuestion_10 (by decide) rfl ?_
    refine V_iconst (v := (0 : Int32)) C dX7_bestQuestion_12 (by decide) ?_
    refine V_istore (lv' := [(5, .int (0 : Int32)), (4, .int (11 : Int32)), (3, .int (-1 : Int32)), (0, .ref (ad 3)), (1, .int x1), (2, .int x2)]) C dX7_bestQuestion_13 (by decide) rfl ?_
    refine V_drop (lv' := [(0, .ref (ad 3)), (1, .int x1), (2, .int x2), (3, .int (-1 : Int32)), (4, .int (11 : Int32)), (5, .int (0 : Int32))]) [3, 4, 5, 2, 1, 0] rfl ?_
    obtain ⟨n0, h⟩ := h
    exact L15  n0 x1 x2 (-1 : Int32) (11 : Int32) (0 : Int32) M h 
  · have h := h.2 q8
    refine V_iconst (v := (-1 : Int32)) C dX7_bestQuestion_4 (by decide) ?_
    exact V_iret C hr hlk dX7_bestQuestion_5 h
