/-- Clerk() on a clerk of any kind, and the kinds' own constructors -/
theorem c_Clk (l : Launch) (D : va_G) (cy : Nat → ClassId) (ci h0 sz : Nat) : KI l yX1_init wsX1_init 2 D cy ci [] (fun a => [(a 0, .inr (ci, []))]) 0 0 h0 sz := by
  refine Met_K (cc := cX1_init) (by decide) rfl rfl ?_
  intro p e s m args below meth c A hAe C hr hlk
  have C : CE p s m args meth c cX1_init RX1 wsX1_init D cy A := C
  refine VE_this C dX1_init_0 ?_
  refine VE_obj C (show Cond.methodLink RX1 1 Lib.objectInit ∈ wsX1_init by decide +kernel) (show Cond.instanceMethod Lib.objectInit ∈ wsX1_init by decide +kernel) (show Cond.code Lib.objectInit ⟨#[0xb1]⟩ 1 none ∈ wsX1_init by decide +kernel) dX1_init_1 (by decide) (Nat.le_of_ble_eq_true rfl) ?_
  exact VE_ret (blk := fun a => [(a 0, .inr (ci, []))]) C (fun _ => h0) rfl rfl hr hlk dX1_init_4
abbrev bX1 (_ : Nat → ClassId) (a : Nat → Nat) : va_W := [(a 0, .inr (1, []))]
theorem c_X1_init (l : Launch) (D : va_G) (cy : Nat → ClassId) (h0 sz : Nat) : KI l yX1_init wsX1_init 2 D cy 1 [] (bX1 cy) 0 0 h0 sz := c_Clk l D cy 1 h0 sz
abbrev bX0 (_ : Nat → ClassId) (a : Nat → Nat) : va_W := [(a 0, .inr (0, []))]
set_option maxHeartbeats 4000000 in
theorem c_X0_init (l : Launch) (D : va_G) (cy : Nat → ClassId) (h0 sz : Nat) : KI l yX0_init wsX0_init 3 D cy 0 [] (bX0 cy) 0 0 h0 sz := by
  refine Met_K (cc := cX0_init) (by decide) rfl rfl ?_
  intro p e s m args below meth c A hAe C hr hlk
  have C : CE p s m args meth c cX0_init RX0 wsX0_init D cy A := C
  refine VE_this C dX0_init_0 ?_
  refine VE_initS (d := 2) C (fun sz => c_Clk l D cy 0 h0 sz) ⟨va_cnB 0 C.1.2.2.2.2 gX0_init_X1_init_n1 rfl rfl rfl (C.2.1.2.2.2.2.2.2.2 _ (List.mem_of_getElem? (i := 11) rfl)) (C.1.2.2.2.2 _ (show Cond.initialized RX1 ∈ wsX0_init by decide +kernel)) (by decide +kernel) ⟨by decide, by decide⟩, rfl, C.1.2.2.2.2 _ (show Cond.instanceMethod yX1_init ∈ wsX0_init by decide +kernel)⟩ (Nat.le_of_ble_eq_true rfl) dX0_init_1 ?_
  exact VE_ret (blk := bX0 cy) C (fun _ => h0) rfl rfl hr hlk dX0_init_4
set_option maxHeartbeats 4000000 in
theorem c_Mns (l : Launch) (D : va_G) (cy : Nat → ClassId) (ci h0 sz : Nat) : KI l yX4_init wsX4_init 3 D cy ci [] (fun a => [(a 0, .inr (ci, []))]) 0 0 h0 sz := by
  refine Met_K (cc := cX4_init) (by decide) rfl rfl ?_
  intro p e s m args below meth c A hAe C hr hlk
  have C : CE p s m args meth c cX4_init RX4 wsX4_init D cy A := C
  refine VE_this C dX4_init_0 ?_
  refine VE_initS (d := 2) C (fun sz => c_Clk l D cy ci h0 sz) ⟨va_cnB 0 C.1.2.2.2.2 gX4_init_X1_init_n1 rfl rfl rfl (C.2.1.2.2.2.2.2.2.2 _ (List.mem_of_getElem? (i := 12) rfl)) (C.1.2.2.2.2 _ (show Cond.initialized RX1 ∈ wsX4_init by decide +kernel)) (by decide +kernel) ⟨by decide, by decide⟩, rfl, C.1.2.2.2.2 _ (show Cond.instanceMethod yX1_init ∈ wsX4_init by decide +kernel)⟩ (Nat.le_of_ble_eq_true rfl) dX4_init_1 ?_
  exact VE_ret (blk := (fun a => [(a 0, .inr (ci, []))])) C (fun _ => h0) rfl rfl hr hlk dX4_init_4
abbrev bX4 (_ : Nat → ClassId) (a : Nat → Nat) : va_W := [(a 0, .inr (4, []))]
theorem c_X4_init (l : Launch) (D : va_G) (cy : Nat → ClassId) (h0 sz : Nat) : KI l yX4_init wsX4_init 3 D cy 4 [] (bX4 cy) 0 0 h0 sz := c_Mns l D cy 4 h0 sz
abbrev bX10 (_ : Nat → ClassId) (a : Nat → Nat) : va_W := [(a 0, .inr (9, []))]
set_option maxHeartbeats 4000000 in
theorem c_X10_init (l : Launch) (D : va_G) (cy : Nat → ClassId) (h0 sz : Nat) : KI l yX10_init wsX10_init 3 D cy 9 [] (bX10 cy) 0 0 h0 sz := by
  refine Met_K (cc := cX10_init) (by decide) rfl rfl ?_
  intro p e s m args below meth c A hAe C hr hlk
  have C : CE p s m args meth c cX10_init RX10 wsX10_init D cy A := C
  refine VE_this C dX10_init_0 ?_
  refine VE_initS (d := 2) C (fun sz => c_Clk l D cy 9 h0 sz) ⟨va_cnB 0 C.1.2.2.2.2 gX10_init_X1_init_n1 rfl rfl rfl (C.2.1.2.2.2.2.2.2.2 _ (List.mem_of_getElem? (i := 13) rfl)) (C.1.2.2.2.2 _ (show Cond.initialized RX1 ∈ wsX10_init by decide +kernel)) (by decide +kernel) ⟨by decide, by decide⟩, rfl, C.1.2.2.2.2 _ (show Cond.instanceMethod yX1_init ∈ wsX10_init by decide +kernel)⟩ (Nat.le_of_ble_eq_true rfl) dX10_init_1 ?_
  exact VE_ret (blk := bX10 cy) C (fun _ => h0) rfl rfl hr hlk dX10_init_4
abbrev bX3 (_ : Nat → ClassId) (a : Nat → Nat) : va_W := [(a 0, .inr (3, []))]
set_option maxHeartbeats 4000000 in
theorem c_X3_init (l : Launch) (D : va_G) (cy : Nat → ClassId) (h0 sz : Nat) : KI l yX3_init wsX3_init 4 D cy 3 [] (bX3 cy) 0 0 h0 sz := by
  refine Met_K (cc := cX3_init) (by decide) rfl rfl ?_
  intro p e s m args below meth c A hAe C hr hlk
  have C : CE p s m args meth c cX3_init RX3 wsX3_init D cy A := C
  refine VE_this C dX3_init_0 ?_
  refine VE_initS (d := 3) C (fun sz => c_Mns l D cy 3 h0 sz) ⟨va_cnB 0 C.1.2.2.2.2 gX3_init_X4_init_n1 rfl rfl rfl (C.2.1.2.2.2.2.2.2.2 _ (List.mem_of_getElem? (i := 14) rfl)) (C.1.2.2.2.2 _ (show Cond.initialized RX4 ∈ wsX3_init by decide +kernel)) (by decide +kernel) ⟨by decide, by decide⟩, rfl, C.1.2.2.2.2 _ (show Cond.instanceMethod yX4_init ∈ wsX3_init by decide +kernel)⟩ (Nat.le_of_ble_eq_true rfl) dX3_init_1 ?_
  exact VE_ret (blk := bX3 cy) C (fun _ => h0) rfl rfl hr hlk dX3_init_4
abbrev bX5 (cy : Nat → ClassId) (a : Nat → Nat) : va_W := [(a 0, .inr (5, [.ref (a 1), .int 0])), ((a 1), .inl (cy 1, 52, .inl (fun _ => 0)))]
theorem mc_X5_init_l3 : Cond.methodLink RX5 3 Lib.objectInit ∈ wsX5_init := by decide +kernel
theorem mc_X5_init_io : Cond.instanceMethod Lib.objectInit ∈ wsX5_init := by decide +kernel
theorem mc_X5_init_co : Cond.code Lib.objectInit ⟨#[0xb1]⟩ 1 none ∈ wsX5_init := by decide +kernel
theorem mc_X5_init_aint : Cond.arrayClass .int ∈ wsX5_init := by decide +kernel
theorem mc_X5_init_f9 : Cond.fieldLink RX5 9 "ShameYards$Page" "codes" "[I" ∈ wsX5_init := by decide +kernel
theorem mc_X5_init_iwX5 : ∀ w ∈ u_ws RX5 TX5 2, w ∈ wsX5_init := by decide +kernel
set_option maxHeartbeats 4000000 in
set_option maxRecDepth 100000 in
theorem c_X5_init (l : Launch) (D : va_G) (cy : Nat → ClassId) (h0 sz : Nat) : KI l yX5_init wsX5_init 2 D cy 5 [.null, .int 0] (bX5 cy) 1 52 h0 sz := by
  refine Met_K (cc := cX5_init) (by decide) rfl rfl ?_
  intro p e s m args below meth c A hAe C hr hlk
  have C : CE p s m args meth c cX5_init RX5 wsX5_init D cy A := C
  refine VE_this C dX5_init_0 ?_
  refine VE_obj C mc_X5_init_l3 mc_X5_init_io mc_X5_init_co dX5_init_1 (by decide) (Nat.le_of_ble_eq_true rfl) ?_
  refine VE_this C dX5_init_4 ?_
  refine VE_bipush (v := 52) C dX5_init_5 (by decide) ?_
  refine VE_newa (atype := .int) (t0 := 1) (cA := cy 1) (a0 := (52, .inl (fun _ => 0))) (N' := 52) C mc_X5_init_aint rfl (Or.inl rfl) rfl (fun _ => rfl) (by decide) (by decide) (by decide) (by decide) (by decide) dX5_init_7 (fun q1 => ?_)
  refine VE_eq (cells' := 1) (slots' := 52) (fs' := [.null, .int 0]) (rs' := [(q1, .inl (cy 1, 52, .inl (fun _ => 0)))]) rfl rfl rfl rfl ?_
  refine VE_putF (k0 := 0) (Cn := RX5) (T := TX5) (N := 2) (v := .ref q1) (ty := .array .int) C rfl mc_X5_init_iwX5 (by decide) rfl mc_X5_init_f9 tyX5_ok nmX5 rfl rfl (by decide +kernel) rfl rfl (Nat.le_of_ble_eq_true rfl) dX5_init_9 ?_
  refine VE_eq (cells' := 1) (slots' := 52) (fs' := [.ref q1, .int 0]) (rs' := [(q1, .inl (cy 1, 52, .inl (fun _ => 0)))]) rfl rfl rfl rfl ?_
  exact VE_ret (blk := bX5 cy) C (fun n => ([h0, q1] : List Nat).getD n 0) rfl rfl hr hlk dX5_init_12
