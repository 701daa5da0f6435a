def nestL : List (String × Nat × MethodName) := [(RX11, 9, yX5_init), (RX11, 18, yX2_init), (RX11, 28, yX9_init), (RX11, 35, yX6_init), (RX11, 42, yX8_init), (RX8, 23, yX2_init), (RX2, 11, yX1_init), (RX2, 14, yX0_init), (RX2, 17, yX4_init), (RX2, 20, yX10_init), (RX2, 23, yX3_init), (RX0, 1, yX1_init), (RX4, 1, yX1_init), (RX10, 1, yX1_init), (RX3, 1, yX4_init)]
def KU (D : va_G) (cy : Nat → ClassId) (U : State) : Prop := va_K D vwCl (tysC cy) U ∧ va_AO "ShameYards$Clerk" U ∧ ((Cond.arrayOver (.array .int)).before #[] U = true) ∧ va_Nw (.castable kBoy kClk) U ∧ va_Nw (.castable kMin kClk) U ∧ va_Nw (.castable kWom kClk) U ∧ va_Nw (.castable kLmp kClk) U ∧ ∀ x ∈ nestL, va_Nw (.methodLinkNest x.1 x.2.1 x.2.2 "ShameYards") U
theorem AOI_spec {U : State} (h : (Cond.arrayOver (.array .int)).before #[] U = true) : ∃ comp c k, U.vm.findClass (FieldType.array .int).toString = some comp ∧ (U.vm.classes.findIdx? fun (x : Class) => match x.kind with | .array component _ => component == comp | _ => false) = some c ∧ U.vm.classes[c]? = some k ∧ k.kind = .array comp (.array .int) ∧ U.vm.findClass ("[" ++ (FieldType.array .int).toString) = some c := by
  simp only [Cond.before, Cond.holds, Cond.value, beq_iff_eq] at h
  cases hc : U.vm.findClass (FieldType.array .int).toString with
  | none => simp [hc] at h
  | some comp =>
    simp only [hc, Option.bind_some, Option.bind_eq_some_iff, Option.map_eq_some_iff] at h
    obtain ⟨c, hi, k, hk, hb⟩ := h
    obtain ⟨hlt, hp, -⟩ := Array.findIdx?_eq_some_iff_getElem.mp hi
    have hkk : U.vm.classes[c] = k := (Array.getElem?_eq_some_iff.mp hk).2
    rw [hkk] at hp
    cases hkind : k.kind with
    | array component ty =>
      rw [hkind] at hb hp
      simp at hb hp
      exact ⟨comp, c, k, rfl, hi, hk, by rw [hkind, hp, hb.1], hb.2⟩
    | _ => rw [hkind] at hb; simp at hb
theorem va_RAA {u U : State} (hvm : u.vm.Alike U.vm) (h : (Cond.arrayOver (.array .int)).before #[] u = true) : (Cond.arrayOver (.array .int)).before #[] U = true := by
  obtain ⟨comp, c, k, h1, h2, h3, h4, h5⟩ := AOI_spec h
  obtain ⟨k', hk', he⟩ := hvm.2.2 _ _ h3
  have hi : (U.vm.classes.findIdx? fun (x : Class) => match x.kind with | .array component _ => component == comp | _ => false) = some c := by
    have e1 := va_idx_bare U.vm comp
    have e2 := va_idx_bare u.vm comp
    first | rw [hvm.bare_eq] at e1 | rw [← hvm.bare_eq] at e1
    exact (e1.symm.trans e2).trans h2
  have hkind : k'.kind = .array comp (.array .int) := by rw [he]; exact h4
  have f1 : U.vm.findClass (FieldType.array .int).toString = some comp := by rw [hvm.findClass]; exact h1
  have f2 : U.vm.findClass ("[" ++ (FieldType.array .int).toString) = some c := by rw [hvm.findClass]; exact h5
  unfold Cond.before Cond.holds
  simp only [Cond.value]
  rw [f1, Option.bind_some]
  refine (congrArg (fun o : Option Nat => (o.bind (fun c => (U.vm.classes[c]?).map fun (k : Class) => match k.kind with | .array _ ty => decide (ty = FieldType.array .int) && decide (U.vm.findClass ("[" ++ (FieldType.array .int).toString) = some c) | _ => false) == some true)) hi).trans ?_
  simp [hk', hkind, f2]
theorem KU.moved {D : va_G} {cy : Nat → ClassId} {u U : State} (hW : u.WarmedH U.vm) (h : KU D cy u) : KU D cy U := ⟨va_K.moved hW.alike h.1, h.2.1.moved hW.alike, va_RAA hW.alike h.2.2.1, va_Nw.warmC hW h.2.2.2.1, va_Nw.warmC hW h.2.2.2.2.1, va_Nw.warmC hW h.2.2.2.2.2.1, va_Nw.warmC hW h.2.2.2.2.2.2.1, fun x hx => va_Nw.warmM hW (h.2.2.2.2.2.2.2 x hx)⟩
theorem KU.same {D : va_G} {cy : Nat → ClassId} {u U : State} (hv : U.vm = u.vm) (h : KU D cy u) : KU D cy U := h.moved (by rw [hv]; exact State.WarmedH.refl u)
theorem RA_inj {s : State} {cA cB : ClassId} {ty : FieldType} (ht : ty = .int ∨ ty = .long ∨ ty = .byte ∨ ty = .array .int) (h1 : va_RA s cA ty) (h2 : va_RA s cB ty) : cA = cB := by
  rcases ht with rfl | rfl | rfl | rfl <;> exact Option.some.inj (Eq.trans (Eq.symm h1) h2)
theorem RA_injO {s : State} {cA cB : ClassId} {C : String} (h1 : va_RA s cA (.object C)) (h2 : va_RA s cB (.object C)) : cA = cB := by
  obtain ⟨_, _, _, _, _, h1⟩ := h1
  obtain ⟨_, _, _, _, _, h2⟩ := h2
  exact Option.some.inj (h1.symm.trans h2)
def CE (p : Program) (s : State) (m : MethodId) (args : Array Value) (meth : Method) (c : Code) (cc : ByteArray) (own : String) (Ts : List Cond) (D : va_G) (cy : Nat → ClassId) (A : Nat → Prop) : Prop := CallFix p m c cc 1 s args Ts own ∧ KU D cy s ∧ (∀ q : Nat, s.heap.size ≤ q → A q) ∧ meth.name = "<init>"
/-- a constructor's body: 'this' at h0 with the fields fs, then the cells rs that it made -/
def VE (p : Program) (l : Launch) (e : Env) (R : Room) (s : State) (m : MethodId) (args : Array Value) (below : List Frame) (meth : Method) (c : Code) (Q : State → Prop) (D : va_G) (A : Nat → Prop) (h0 ci : Nat) (cells slots : Nat) (fs : List Value) (rs : va_W) (pc : Nat) (st : List Value) : Prop :=
  ∀ (H : Heap) (locs : List Loc) (ls : Array Slot), va_P D vwCl ((h0, .inr (ci, fs)) :: rs) H → va_D A ((h0, .inr (ci, fs)) :: rs) → va_S A s.heap H locs → lv_has ls 1 [(0, .ref h0)] → W p l e R s m args below meth c H locs cells slots Q (F0 m pc ls st)
def rmC (d mc ms : Nat) : Room := { frames := d, cells := mc, slots := ms, locals := 64 * d }
def KI (l : Launch) (y : MethodName) (ws : List Cond) (d : Nat) (D : va_G) (cy : Nat → ClassId) (ci : Nat) (fs : List Value) (blk : (Nat → Nat) → va_W) (mc ms h0 sz : Nat) : Prop :=
  Met l y ws (rmC d mc ms) (va_Pc [.ref h0] (fun U => U.heap.size = sz ∧ va_P D vwCl [(h0, .inr (ci, fs))] U.heap ∧ KU D cy U ∧ va_D (fun _ => True) [(h0, .inr (ci, fs))])) (va_Qv (fun a : Nat → Nat => a 0 = h0) (fun a t => va_P D vwCl (blk a) t.heap ∧ va_D (va_A [(h0, .inr (ci, fs))] sz) (blk a)) (va_A [(h0, .inr (ci, fs))] sz)) mc ms (va_A [(h0, .inr (ci, fs))] sz)
theorem VE_join {D : va_G} {cl : List vw_C} {A : Nat → Prop} {W0 w1 : va_W} {x : Nat × va_E} {H H1 : Heap} (hP : va_P D cl (W0 ++ [x]) H) (hD : va_D A (W0 ++ [x])) (hk : ∀ q : Nat, q < H.size → ¬ va_A [x] H.size q → H1[q]? = H[q]?) (hF : ∀ q, va_A [x] H.size q → A q) (hP1 : va_P D cl w1 H1) (hD1 : va_D (va_A [x] H.size) w1) : va_P D cl (W0 ++ w1) H1 ∧ va_D A (W0 ++ w1) := by
  have lf : ∀ (k : Nat) (y : Nat × va_E), W0[k]? = some y → (W0 ++ [x])[k]? = some y := fun k y hy => by rw [List.getElem?_append_left (List.getElem?_eq_some_iff.mp hy).1]; exact hy
  have hx : (W0 ++ [x])[W0.length]? = some x := by simp
  have apart : ∀ (k : Nat) (y : Nat × va_E), W0[k]? = some y → y.1 < H.size ∧ ¬ va_A [x] H.size y.1 := by
    intro k y hy
    have hlt := (hP k y (lf k y hy)).lt
    refine ⟨hlt, ?_⟩
    rintro (⟨j, e0, hj⟩ | h)
    · have hj0 : j < 1 := (List.getElem?_eq_some_iff.mp hj).1
      have hj1 : j = 0 := by omega
      subst hj1
      have hxe : x = (y.1, e0) := Option.some.inj hj
      have := hD.1 k W0.length y x (lf k y hy) hx (by rw [hxe])
      have := (List.getElem?_eq_some_iff.mp hy).1
      omega
    · omega
  refine ⟨va_P.app (fun k y hy => (hP k y (lf k y hy)).kept (hk y.1 (apart k y hy).1 (apart k y hy).2)) hP1, va_D.app ⟨fun i j y z hy hz e => hD.1 i j y z (lf i y hy) (lf j z hz) e, fun k y hy => hD.2 k y (lf k y hy)⟩ (hD1.weaken (fun k q _ h => hF q.1 h)) (fun i j y z hy hz e => ?_)⟩
  exact (apart i y hy).2 (by rw [e]; exact hD1.2 j z hz)
theorem Met_K {l : Launch} {y : MethodName} {ws ws' : List Cond} {d : Nat} {D : va_G} {cy : Nat → ClassId} {ci : Nat} {fs : List Value} {blk : (Nat → Nat) → va_W} {mc ms h0 sz : Nat} {cc : ByteArray} (hy : plainName y.cls = true) (hnm : y.name = "<init>") (hw : ws = Cond.code y cc 1 none :: ws')
    (body : ∀ (p : Program) (e : Env) (s : State) (m : MethodId) (args : Array Value) (below : List Frame) (meth : Method) (c : Code) (A : Nat → Prop), A = va_A [(h0, .inr (ci, fs))] sz → CE p s m args meth c cc y.cls ws D cy A → meth.sig.returnType = none → meth.locks = false → VE p l e (rmC d mc ms) s m args below meth c (MQ below (va_Qv (fun a : Nat → Nat => a 0 = h0) (fun a t => va_P D vwCl (blk a) t.heap ∧ va_D A (blk a)) A) args s mc ms A) D A h0 ci 0 0 fs [] 0 []) : KI l y ws d D cy ci fs blk mc ms h0 sz := by
  refine Met.ofW (cc := cc) (maxL := 1) (ret := none) hy hw ?_
  intro p e s m args below meth c s₁ B hml hv
  obtain ⟨rfl, hsz, hP, hK, hD0⟩ := hv
  have hl := lv_entry [.ref h0] (n := 1) (Nat.le_of_ble_eq_true rfl)
  rw [lg_entry_eq]
  subst hsz
  exact body p e s m _ below meth c _ rfl ⟨⟨B.exec, B.bytes, hml, findClass_of_methodNamed B.named, atoms_spec (ws := ws) B.pre⟩, hK, fun q h => Or.inr h, (name_of_methodNamed B.named B.method).1.trans hnm⟩ B.returns B.notSynchronized s.heap [] _ hP (hD0.self (sz := s.heap.size)) va_S.rf hl
section VER
variable {p : Program} {l : Launch} {e : Env} {R : Room} {s : State} {m : MethodId} {args : Array Value} {below : List Frame} {meth : Method} {c : Code} {Q : State → Prop} {D : va_G} {cy : Nat → ClassId} {A : Nat → Prop} {h0 ci cells slots : Nat} {fs : List Value} {rs : va_W} {pc : Nat} {st : List Value} {cc : ByteArray} {own : String} {Ts : List Cond}
theorem VE_this (C : CE p s m args meth c cc own Ts D cy A)  (hd : decode cc pc = .ok (.aload_n 0, 1))  (k : VE p l e R s m args below meth c Q D A h0 ci (cells) (slots) fs (rs) (pc + 1) (.ref h0 :: st)) : VE p l e R s m args below meth c Q D A h0 ci (cells) (slots) fs (rs) (pc) (st) := fun H locs ls hP hD hS hl => lv_aload_n C.1.1 C.1.2.1 hd rfl (lv_at hl 0 rfl) (k H locs ls hP hD hS hl)
theorem VE_iconst (C : CE p s m args meth c cc own Ts D cy A) {n : Int} {v : Int32} (hd : decode cc pc = .ok (.iconst n, 1)) (hv : Int32.ofInt n = v) (k : VE p l e R s m args below meth c Q D A h0 ci (cells) (slots) fs (rs) (pc + 1) (.int v :: st)) : VE p l e R s m args below meth c Q D A h0 ci (cells) (slots) fs (rs) (pc) (st) := fun H locs ls hP hD hS hl => lv_iconst C.1.1 C.1.2.1 hd hv (k H locs ls hP hD hS hl)
theorem VE_bipush (C : CE p s m args meth c cc own Ts D cy A) {n : Int} {v : Int32} (hd : decode cc pc = .ok (.bipush n, 2)) (hv : (Int8.ofInt n).toInt32 = v) (k : VE p l e R s m args below meth c Q D A h0 ci (cells) (slots) fs (rs) (pc + 2) (.int v :: st)) : VE p l e R s m args below meth c Q D A h0 ci (cells) (slots) fs (rs) (pc) (st) := fun H locs ls hP hD hS hl => lv_bipush C.1.1 C.1.2.1 hd hv (k H locs ls hP hD hS hl)
theorem VE_lconst (C : CE p s m args meth c cc own Ts D cy A) {n : Fin 2} {v : Int64} (hd : decode cc pc = .ok (.lconst n, 1)) (hv : Int64.ofNat (n : Nat) = v) (k : VE p l e R s m args below meth c Q D A h0 ci (cells) (slots) fs (rs) (pc + 1) (.long v :: st)) : VE p l e R s m args below meth c Q D A h0 ci (cells) (slots) fs (rs) (pc) (st) := fun H locs ls hP hD hS hl => lv_lconst C.1.1 C.1.2.1 hd hv (k H locs ls hP hD hS hl)
theorem VE_ldc (C : CE p s m args meth c cc own Ts D cy A) {index : Nat} {v : Int32} (hd : decode cc pc = .ok (.ldc index, 2)) (hc : Jvm.Cond.constant own index v ∈ Ts) (k : VE p l e R s m args below meth c Q D A h0 ci (cells) (slots) fs (rs) (pc + 2) (.int v :: st)) : VE p l e R s m args below meth c Q D A h0 ci (cells) (slots) fs (rs) (pc) (st) := fun H locs ls hP hD hS hl => lv_ldc C.1.1 C.1.2.1 C.1.2.2.2.1 (C.1.2.2.2.2 _ hc) hd (k H locs ls hP hD hS hl)
theorem VE_dup (C : CE p s m args meth c cc own Ts D cy A) {v : Value} (hd : decode cc pc = .ok (.dup, 1)) (hv : v.category = 1) (k : VE p l e R s m args below meth c Q D A h0 ci (cells) (slots) fs (rs) (pc + 1) (v :: v :: st)) : VE p l e R s m args below meth c Q D A h0 ci (cells) (slots) fs (rs) (pc) (v :: st) := fun H locs ls hP hD hS hl => lv_dup C.1.1 C.1.2.1 hd hv (k H locs ls hP hD hS hl)
theorem VE_obj (C : CE p s m args meth c cc own Ts D cy A) {idx : Nat} (h1 : Cond.methodLink own idx Lib.objectInit ∈ Ts) (h2 : Cond.instanceMethod Lib.objectInit ∈ Ts) (h3 : Cond.code Lib.objectInit ⟨#[0xb1]⟩ 1 none ∈ Ts) (hd : decode cc pc = .ok (.invokespecial idx, 3)) (hf : 1 ≤ R.frames) (hlo : 2 * 0 + (st.map fun v => v.category).sum + 12 ≤ R.locals) (k : VE p l e R s m args below meth c Q D A h0 ci (cells) (slots) fs (rs) (pc + 3) (st)) : VE p l e R s m args below meth c Q D A h0 ci (cells) (slots) fs (rs) (pc) (.ref h0 :: st) := by
  intro H locs ls hP hD hS hl
  refine W.objInit C.1.1 C.1.2.1 C.1.2.2.2.1 (C.1.2.2.2.2 _ h1) (C.1.2.2.2.2 _ h2) (C.1.2.2.2.2 _ h3) rfl (by rw [C.1.2.2.1]; exact hl.1) rfl hd hf hlo ?_
  exact W.eq (g2 := F0 m (pc + 3) ls st) rfl (k H locs ls hP hD hS hl)
theorem VE_newa (C : CE p s m args meth c cc own Ts D cy A) {atype : ArrayType} {ty : FieldType} {n : Int32} {N' t0 : Nat} {a0 : vp_A} {cA : ClassId} (harr : Cond.arrayClass (newarray.typeOf atype) ∈ Ts) (hty : newarray.typeOf atype = ty) (h4 : ty = .int ∨ ty = .long ∨ ty = .byte ∨ ty = .array .int) (ht : (tysC cy)[t0]? = some (cA, ty)) (ha : ∀ cA : ClassId, vp_cell cA a0 = arrV cA N' (fun _ => defaultValue ty)) (hn : ¬ n < 0) (hN : n.toNatClampNeg = N') (hbytes : N' * componentBytes ty ≤ 536870912) (hcells : cells + 1 ≤ R.cells) (hslots : slots + N' ≤ R.slots) (hd : decode cc pc = .ok (.newarray atype, 2)) (k : ∀ q : Nat, VE p l e R s m args below meth c Q D A h0 ci (cells + 1) (slots + N') fs (rs ++ [(q, .inl (cA, a0))]) (pc + 2) (.ref q :: st)) : VE p l e R s m args below meth c Q D A h0 ci (cells) (slots) fs (rs) (pc) (.int n :: st) := by
  intro H locs ls hP hD hS hl
  refine va_newa C.1.1 C.1.2.1 (C.1.2.2.2.2 _ harr) hty C.2.1.1 hP hD hS C.2.2.1 ha hn hN hbytes hcells hslots hd (fun q cA1 H1 hK1 hP1 hD1 hS1 => ?_)
  have e1 : cA1 = cA := RA_inj h4 (hK1.2 5 (cA1, ty) rfl).2 (C.2.1.1.2 t0 _ ht).2
  subst e1
  exact k q H1 locs ls hP1 hD1 hS1 hl
theorem VE_newq (C : CE p s m args meth c cc own Ts D cy A) {index : Nat} {n : Int32} {N' : Nat} (hcl : Cond.classLink own index "ShameYards$Clerk" ∈ Ts) (hn : ¬ n < 0) (hN : n.toNatClampNeg = N') (hbytes : N' * 4 ≤ 536870912) (hcells : cells + 1 ≤ R.cells) (hslots : slots + N' ≤ R.slots) (hd : decode cc pc = .ok (.anewarray index, 3)) (k : ∀ q : Nat, VE p l e R s m args below meth c Q D A h0 ci (cells + 1) (slots + N') fs (rs ++ [(q, .inl (cy 3, N', .inr (.inr (.inr (.inr (fun _ => none))))))]) (pc + 3) (.ref q :: st)) : VE p l e R s m args below meth c Q D A h0 ci (cells) (slots) fs (rs) (pc) (.int n :: st) := by
  intro H locs ls hP hD hS hl
  refine va_newq C.1.1 C.1.2.1 C.1.2.2.2.1 (C.1.2.2.2.2 _ hcl) C.2.1.2.1 C.2.1.1 hP hD hS C.2.2.1 hn hN hbytes hcells hslots hd (fun q cA1 H1 hK1 hP1 hD1 hS1 => ?_)
  have e1 : cA1 = cy 3 := RA_injO (hK1.2 5 (cA1, .object "ShameYards$Clerk") rfl).2 (C.2.1.1.2 3 _ rfl).2
  subst e1
  exact k q H1 locs ls hP1 hD1 hS1 hl
theorem VE_new (C : CE p s m args meth c cc own Ts D cy A) {index N ci1 : Nat} {Cn : String} {T : u_T} {fs1 : List Value} {ty : Nat → FieldType} (hc : vwCl[ci1]? = some (Cn, T, N)) (hin : ∀ w ∈ u_ws Cn T N, w ∈ Ts) (hty : ∀ k, k < N → parseFieldDescriptor (T k).2.2.1 = some (ty k)) (h1 : Cond.classLink own index Cn ∈ Ts) (h2 : Cond.instantiable Cn N ∈ Ts) (h3 : Cond.initialized Cn ∈ Ts) (hfs : ∀ j, j < N → defaultValue (ty j) = vp_V fs1 j) (hcells : cells + 1 ≤ R.cells) (hslots : slots + N ≤ R.slots) (hd : decode cc pc = .ok (.new index, 3)) (k : ∀ q : Nat, VE p l e R s m args below meth c Q D A h0 ci (cells + 1) (slots + N) fs (rs ++ [(q, .inr (ci1, fs1))]) (pc + 3) (.ref q :: st)) : VE p l e R s m args below meth c Q D A h0 ci (cells) (slots) fs (rs) (pc) (st) := by
  intro H locs ls hP hD hS hl
  exact va_new C.1.1 C.1.2.1 C.1.2.2.2.2 hin ty hty C.1.2.2.2.1 (C.1.2.2.2.2 _ h1) (C.1.2.2.2.2 _ h2) (C.1.2.2.2.2 _ h3) C.2.1.1 hP hD hS C.2.2.1 hc hfs hcells hslots hd (fun q H1 hP1 hD1 hS1 => k q H1 locs ls hP1 hD1 hS1 hl)
theorem VE_putF (C : CE p s m args meth c cc own Ts D cy A) {k0 index N : Nat} {Cn ref nm ds : String} {fin : Bool} {T : u_T} {ty0 : Nat → FieldType} {ty : FieldType} {v : Value} (hc : vwCl[ci]? = some (Cn, T, N)) (hin : ∀ w ∈ u_ws Cn T N, w ∈ Ts) (hk : k0 < N) (hT : T k0 = (ref, nm, ds, fin)) (hlk : Cond.fieldLink own index ref nm ds ∈ Ts) (hty : ∀ k, k < N → parseFieldDescriptor (T k).2.2.1 = some (ty0 k)) (hnm : ∀ a, a < N → ∀ b, b < N → a ≠ b → (T a).2.1 ≠ (T b).2.1) (hf : fin = true) (hown : ref = own) (hds : parseFieldDescriptor ds = some ty) (hn : narrow ty v = v) (hfit : fits ty v = true) (hl0 : k0 < fs.length) (hd : decode cc pc = .ok (.putfield index, 3)) (k : VE p l e R s m args below meth c Q D A h0 ci (cells) (slots) (fs.set k0 v) (rs) (pc + 3) (st)) : VE p l e R s m args below meth c Q D A h0 ci (cells) (slots) fs (rs) (pc) (v :: .ref h0 :: st) := by
  intro H locs ls hP hD hS hl
  exact va_putF C.1.1 C.1.2.1 (ref := ref) C.1.2.2.2.2 hin ty0 hty hnm C.1.2.2.2.1 C.2.1.1 hP hD hS 0 rfl hc k0 hk (by rw [hT]; exact C.1.2.2.2.2 _ hlk) (by rw [hT]; exact fun _ h => h) (by rw [hT]; exact hf) (C.2.2.2) (by rw [hT]; exact hown) (by rw [hT]; exact hds) hn hfit hl0 hd (fun H1 locs1 hP1 hD1 hS1 => k H1 locs1 ls hP1 hD1 hS1 hl)
theorem VE_putN (C : CE p s m args meth c cc own Ts D cy A) {k0 index N : Nat} {Cn ref nm ds : String} {fin : Bool} {T : u_T} {ty0 : Nat → FieldType} {ty : FieldType} {v : Value} (hc : vwCl[ci]? = some (Cn, T, N)) (hin : ∀ w ∈ u_ws Cn T N, w ∈ Ts) (hk : k0 < N) (hT : T k0 = (ref, nm, ds, fin)) (hlk : Cond.fieldLink own index ref nm ds ∈ Ts) (hty : ∀ k, k < N → parseFieldDescriptor (T k).2.2.1 = some (ty0 k)) (hnm : ∀ a, a < N → ∀ b, b < N → a ≠ b → (T a).2.1 ≠ (T b).2.1) (hf : fin = false) (hds : parseFieldDescriptor ds = some ty) (hn : narrow ty v = v) (hfit : fits ty v = true) (hl0 : k0 < fs.length) (hd : decode cc pc = .ok (.putfield index, 3)) (k : VE p l e R s m args below meth c Q D A h0 ci (cells) (slots) (fs.set k0 v) (rs) (pc + 3) (st)) : VE p l e R s m args below meth c Q D A h0 ci (cells) (slots) fs (rs) (pc) (v :: .ref h0 :: st) := by
  intro H locs ls hP hD hS hl
  exact va_put C.1.1 C.1.2.1 (ref := ref) C.1.2.2.2.2 hin ty0 hty hnm C.1.2.2.2.1 C.2.1.1 hP hD hS 0 rfl hc k0 hk (by rw [hT]; exact C.1.2.2.2.2 _ hlk) (by rw [hT]; exact fun _ h => h) (by rw [hT]; exact hf) (by rw [hT]; exact hds) hn hfit hl0 hd (fun H1 locs1 hP1 hD1 hS1 => k H1 locs1 ls hP1 hD1 hS1 hl)
theorem VE_ast (C : CE p s m args meth c cc own Ts D cy A) {ci1 qa v n : Nat} {r : vw_C} {vs : List Value} {f : Nat → Option Nat} {r1 : va_W} {i : Int32} (hc : vwCl[ci1]? = some r) (hr1 : r.1 = "ShameYards$Clerk") (hin : vp_in i n) (hd : decode cc pc = .ok (.aastore, 1)) (k : VE p l e R s m args below meth c Q D A h0 ci (cells) (slots) fs ((qa, .inl (cy 3, n, .inr (.inr (.inr (.inr (va_up f i.toNatClampNeg (some v))))))) :: (r1 ++ [(v, .inr (ci1, vs))])) (pc + 1) (st)) : VE p l e R s m args below meth c Q D A h0 ci (cells) (slots) fs ((qa, .inl (cy 3, n, .inr (.inr (.inr (.inr f))))) :: (r1 ++ [(v, .inr (ci1, vs))])) (pc) (.ref v :: .int i :: .ref qa :: st) := by
  intro H locs ls hP hD hS hl
  have hv : (((h0, .inr (ci, fs)) :: (qa, .inl (cy 3, n, .inr (.inr (.inr (.inr f))))) :: (r1 ++ [(v, .inr (ci1, vs))])) : va_W)[2 + r1.length]? = some (v, .inr (ci1, vs)) := by
    rw [Nat.add_comm]
    simp
  exact va_astq C.1.1 C.1.2.1 C.2.1.1 hP hD hS 1 3 (2 + r1.length) ci1 rfl (by rw [hr1]; rfl) hv hc hin hd (fun H1 locs1 hP1 hD1 hS1 => k H1 locs1 ls hP1 hD1 hS1 hl)
theorem VE_astO (C : CE p s m args meth c cc own Ts D cy A) {ci1 qa v n : Nat} {r : vw_C} {vs : List Value} {f : Nat → Option Nat} {r1 : va_W} {i : Int32} (hc : vwCl[ci1]? = some r) (hca : va_Nw (.castable r.1 "ShameYards$Clerk") s) (hin : vp_in i n) (hd : decode cc pc = .ok (.aastore, 1)) (k : VE p l e R s m args below meth c Q D A h0 ci (cells) (slots) fs ((qa, .inl (cy 3, n, .inr (.inr (.inr (.inr (va_up f i.toNatClampNeg (some v))))))) :: (r1 ++ [(v, .inr (ci1, vs))])) (pc + 1) (st)) : VE p l e R s m args below meth c Q D A h0 ci (cells) (slots) fs ((qa, .inl (cy 3, n, .inr (.inr (.inr (.inr f))))) :: (r1 ++ [(v, .inr (ci1, vs))])) (pc) (.ref v :: .int i :: .ref qa :: st) := by
  intro H locs ls hP hD hS hl
  have hv : (((h0, .inr (ci, fs)) :: (qa, .inl (cy 3, n, .inr (.inr (.inr (.inr f))))) :: (r1 ++ [(v, .inr (ci1, vs))])) : va_W)[2 + r1.length]? = some (v, .inr (ci1, vs)) := by
    rw [Nat.add_comm]
    simp
  exact va_astqO C.1.1 C.1.2.1 C.2.1.1 hP hD hS 1 3 (2 + r1.length) ci1 rfl rfl hca hv hc hin hd (fun H1 locs1 hP1 hD1 hS1 => k H1 locs1 ls hP1 hD1 hS1 hl)
theorem VE_init (C : CE p s m args meth c cc own Ts D cy A) {y : MethodName} {ws : List Cond} {d index maxL mc ms q ci1 : Nat} {bytes : ByteArray} {fs1 : List Value} {blk : (Nat → Nat) → va_W} (hM : ∀ sz, KI l y ws d D cy ci1 fs1 blk mc ms q sz) (cw : va_CN R s args own index y "ShameYards" bytes maxL none ws (rmC d mc ms) mc ms 0 ∧ y.name = "<init>" ∧ (Cond.instanceMethod y).before args s = true) (hW : (st.map fun v => v.category).sum ≤ 8) (hd : decode cc pc = .ok (.invokespecial index, 3)) (hcells : cells + mc ≤ R.cells ∧ slots + ms ≤ R.slots) (k : ∀ a : Nat → Nat, a 0 = q → VE p l e R s m args below meth c Q D A h0 ci (cells + mc) (slots + ms) fs (rs ++ blk a) (pc + 3) (st)) : VE p l e R s m args below meth c Q D A h0 ci (cells) (slots) fs (rs ++ [(q, .inr (ci1, fs1))]) (pc) (.ref q :: st) := by
  intro H locs ls hP hD hS hl
  have hx : (((h0, .inr (ci, fs)) :: rs) ++ [(q, .inr (ci1, fs1))] : va_W)[((h0, .inr (ci, fs)) :: rs).length]? = some (q, .inr (ci1, fs1)) := by simp
  have hPc : va_P D vwCl [(q, .inr (ci1, fs1))] H := by
    intro k9 x h9
    have h1 : k9 < 1 := (List.getElem?_eq_some_iff.mp h9).1
    have h2 : k9 = 0 := by omega
    subst h2
    cases h9
    exact hP _ _ hx
  have hDc : va_D (fun _ => True) [(q, .inr (ci1, fs1))] := ⟨fun i j x y hi hj _ => by
    have := (List.getElem?_eq_some_iff.mp hi).1
    have := (List.getElem?_eq_some_iff.mp hj).1
    simp at *
    omega, fun _ _ _ => trivial⟩
  have hF : ∀ x, va_A [(q, .inr (ci1, fs1))] H.size x → A x := by
    rintro x (⟨k9, e9, h9⟩ | h9)
    · have h1 : k9 < 1 := (List.getElem?_eq_some_iff.mp h9).1
      have h2 : k9 = 0 := by omega
      subst h2
      cases h9
      exact hD.2 _ _ hx
    · exact C.2.2.1 x (Nat.le_trans hS.1 h9)
  refine va_callv (va_runIN (As := []) (rest := st) C.1 (hM H.size) cw ⟨fun a U g mk z => ⟨z.1, z.2.1, z.2.2.1, KU.same (u := U) rfl z.2.2.2.1, z.2.2.2.2⟩, fun U hU hW1 => ⟨rfl, by rw [hU], by rw [hU]; exact hPc, C.2.1.moved hW1, hDc⟩⟩ rfl rfl hl.1 rfl (lv_room hW) hd hcells) hS (fun x _ h => hF x h) hF (fun u t H1 locs1 ht hvm hp hB hz hk hS1 => ?_)
  have hj := VE_join (W0 := (h0, .inr (ci, fs)) :: rs) hP hD hk hF (by rw [← ht]; exact hB.1) hB.2
  exact k u hp H1 locs1 ls hj.1 hj.2 hS1 hl
theorem VE_ret (C : CE p s m args meth c cc own Ts D cy A) {blk : (Nat → Nat) → va_W} (a : Nat → Nat) (ha : a 0 = h0) (hbl : blk a = (h0, .inr (ci, fs)) :: rs) (hr : meth.sig.returnType = none) (hlk : meth.locks = false) (hd : decode cc pc = .ok (.return_, 1)) : VE p l e R s m args below meth c (MQ below (va_Qv (fun a : Nat → Nat => a 0 = h0) (fun a t => va_P D vwCl (blk a) t.heap ∧ va_D A (blk a)) A) args s cells slots A) D A h0 ci cells slots fs rs pc [] := fun H locs ls hP hD hS hl => W.vret C.1.1 C.1.2.1 hr (fun t ht hW => ⟨⟨a, rfl, ha, by rw [hbl, ht]; exact hP, by rw [hbl]; exact hD⟩, hS.F ht⟩) hS.2.2 hd hlk
theorem VE_initS (C : CE p s m args meth c cc own Ts D cy A) {y : MethodName} {ws : List Cond} {d index maxL : Nat} {bytes : ByteArray} (hM : ∀ sz, KI l y ws d D cy ci [] (fun a => [(a 0, .inr (ci, []))]) 0 0 h0 sz) (cw : va_CN R s args own index y "ShameYards" bytes maxL none ws (rmC d 0 0) 0 0 0 ∧ y.name = "<init>" ∧ (Cond.instanceMethod y).before args s = true) (hW : (st.map fun v => v.category).sum ≤ 8) (hd : decode cc pc = .ok (.invokespecial index, 3)) (k : VE p l e R s m args below meth c Q D A h0 ci 0 0 [] [] (pc + 3) st) : VE p l e R s m args below meth c Q D A h0 ci 0 0 [] [] pc (.ref h0 :: st) := by
  intro H locs ls hP hD hS hl
  have hF : ∀ x, va_A [(h0, .inr (ci, []))] H.size x → A x := by
    rintro x (⟨k9, e9, h9⟩ | h9)
    · exact hD.2 k9 (x, e9) h9
    · exact C.2.2.1 x (Nat.le_trans hS.1 h9)
  refine va_callv (va_runIN (As := []) (rest := st) C.1 (hM H.size) cw ⟨fun a U g mk z => ⟨z.1, z.2.1, z.2.2.1, KU.same (u := U) rfl z.2.2.2.1, z.2.2.2.2⟩, fun U hU hW1 => ⟨rfl, by rw [hU], by rw [hU]; exact hP, C.2.1.moved hW1, hD.weaken (fun _ _ _ _ => trivial)⟩⟩ rfl rfl hl.1 rfl (lv_room hW) hd ⟨Nat.zero_le _, Nat.zero_le _⟩) hS (fun x _ h => hF x h) hF (fun u t H1 locs1 ht hvm hp hB hz hk hS1 => ?_)
  have hb1 := hB.1
  have hb2 := hB.2
  dsimp only at hb1 hb2
  rw [hp, ht] at hb1
  rw [hp] at hb2
  exact k H1 locs1 ls hb1 (hb2.weaken (fun _ q _ h => hF q.1 h)) hS1 hl
theorem VE_eq {cells' slots' : Nat} {fs' : List Value} {rs' : va_W} (h1 : cells = cells') (h2 : slots = slots') (h3 : fs = fs') (h4 : rs = rs') (k : VE p l e R s m args below meth c Q D A h0 ci cells' slots' fs' rs' pc st) : VE p l e R s m args below meth c Q D A h0 ci cells slots fs rs pc st := by subst h1; subst h2; subst h3; subst h4; exact k
end VER
