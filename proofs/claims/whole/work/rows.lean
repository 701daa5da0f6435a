section
theorem AOI_spec {U : State} (h : (Cond.arrayOver (.array .int)).before #[] U = true) : ∃ comp c k, U.vm.findClass (FieldType.array .int).toString = some comp ∧ (U.vm.classes.findIdx? fun (x : Class) => match x.kind with | .array component _ => component == comp | _ => false) = some c ∧ U.vm.classes[c]? = some k ∧ k.kind = .array comp (.array .int) ∧ U.vm.findClass ("[" ++ (FieldType.array .int).toString) = some c := by
  simp only [Cond.before, Cond.holds, Cond.value, beq_iff_eq] at h
  cases hc : U.vm.findClass (FieldType.array .int).toString with
  | none => simp [hc] at h
  | some comp =>
    simp only [hc, Option.bind_some, Option.bind_eq_some_iff, Option.map_eq_some_iff] at h
    obtain ⟨c, hi, k, hk, hb⟩ := h
    obtain ⟨hlt, hp, -⟩ := Array.findIdx?_eq_some_iff_getElem.mp hi
    have hkk : U.vm.classes[c] = k := (Array.getElem?_eq_some_iff.mp hk).2
    rw [hkk] at hp
    cases hkind : k.kind with
    | array component ty =>
      rw [hkind] at hb hp
      simp at hb hp
      exact ⟨comp, c, k, rfl, hi, hk, by rw [hkind, hp, hb.1], hb.2⟩
    | _ => rw [hkind] at hb; simp at hb
/-! ===== new int[5][5]: one outer cell, five rows ===== -/
/-- the outer cell with its first i rows in place; a row; the state with i rows -/
def mnO (cA : ClassId) (h i : Nat) : Cell := arrV cA 5 (fun j => if j < i then .ref (h + 1 + j) else .null)
def mnI (co : ClassId) : Cell := arrV co 5 (fun _ => .int 0)
def mnS (T : State) (cA co : ClassId) (i : Nat) : State := { T with heap := T.heap.push (mnO cA T.heap.size i) ++ Array.replicate i (mnI co), slotsUsed := T.slotsUsed + 5 + i * 5 }
theorem mnO_put (cA : ClassId) (h i : Nat) : (mnO cA h i).setSlot i (.ref (h + 1 + i)) = mnO cA h (i + 1) := by
  unfold mnO
  rw [arrV_store]
  refine congrArg (arrV cA 5) (funext fun j => ?_)
  show (if j = i then Value.ref (h + 1 + i) else (if j < i then Value.ref (h + 1 + j) else Value.null)) = if j < i + 1 then Value.ref (h + 1 + j) else Value.null
  by_cases h1 : j = i
  · rw [if_pos h1, if_pos (by omega), h1]
  · by_cases h2 : j < i
    · rw [if_neg h1, if_pos h2, if_pos (by omega)]
    · rw [if_neg h1, if_neg h2, if_neg (by omega)]
theorem mnS_size (T : State) (cA co : ClassId) (i : Nat) : (mnS T cA co i).heap.size = T.heap.size + 1 + i := by
  show (T.heap.push (mnO cA T.heap.size i) ++ Array.replicate i (mnI co)).size = _
  rw [Array.size_append, Array.size_push, Array.size_replicate]
theorem mnS_old (T : State) (cA co : ClassId) (i : Nat) {x : Nat} (h : x < T.heap.size) : (mnS T cA co i).heap[x]? = T.heap[x]? := by
  show (T.heap.push (mnO cA T.heap.size i) ++ Array.replicate i (mnI co))[x]? = _
  rw [Array.getElem?_append_left (by rw [Array.size_push]; omega), Array.getElem?_push, if_neg (by omega)]
theorem mnS_out (T : State) (cA co : ClassId) (i : Nat) : (mnS T cA co i).heap[T.heap.size]? = some (mnO cA T.heap.size i) := by
  show (T.heap.push (mnO cA T.heap.size i) ++ Array.replicate i (mnI co))[T.heap.size]? = _
  rw [Array.getElem?_append_left (by rw [Array.size_push]; omega), Array.getElem?_push, if_pos rfl]
theorem mnS_row (T : State) (cA co : ClassId) (i : Nat) {x : Nat} (h1 : T.heap.size < x) (h2 : x < T.heap.size + 1 + i) : (mnS T cA co i).heap[x]? = some (mnI co) := by
  show (T.heap.push (mnO cA T.heap.size i) ++ Array.replicate i (mnI co))[x]? = _
  rw [Array.getElem?_append_right (by rw [Array.size_push]; omega), Array.getElem?_replicate, if_pos (by rw [Array.size_push]; omega)]
theorem mnS_zero (T : State) (cA co : ClassId) : T.pushCell (mnO cA T.heap.size 0) = mnS T cA co 0 := by
  have hh : T.heap.push (mnO cA T.heap.size 0) = T.heap.push (mnO cA T.heap.size 0) ++ Array.replicate 0 (mnI co) := by simp
  have hu : T.slotsUsed + (mnO cA T.heap.size 0).slots.size = T.slotsUsed + 5 + 0 * 5 := by
    rw [show (mnO cA T.heap.size 0).slots.size = 5 from arrV_size _ _ _]
  show ({ T with heap := T.heap.push (mnO cA T.heap.size 0), slotsUsed := T.slotsUsed + (mnO cA T.heap.size 0).slots.size } : State) = _
  rw [hu]
  unfold mnS
  rw [← hh]
theorem mnS_next (T : State) (cA co : ClassId) (i : Nat) : ((mnS T cA co i).pushCell (mnI co)).setCell T.heap.size (mnO cA T.heap.size (i + 1)) = mnS T cA co (i + 1) := by
  have hh : ((mnS T cA co i).heap.push (mnI co)).setIfInBounds T.heap.size (mnO cA T.heap.size (i + 1)) = (mnS T cA co (i + 1)).heap := by
    apply Array.ext_getElem?
    intro x
    rw [Array.getElem?_setIfInBounds, Array.size_push, mnS_size]
    by_cases h1 : T.heap.size = x
    · rw [if_pos h1, if_pos (by omega), ← h1, mnS_out]
    · rw [if_neg h1, Array.getElem?_push, mnS_size]
      by_cases h2 : x < T.heap.size
      · rw [if_neg (by omega), mnS_old _ _ _ _ h2, mnS_old _ _ _ _ h2]
      · by_cases h3 : x = T.heap.size + 1 + i
        · rw [if_pos h3, mnS_row _ _ _ _ (by omega) (by omega)]
        · rw [if_neg h3]
          by_cases h4 : x < T.heap.size + 1 + i
          · rw [mnS_row _ _ _ _ (by omega) h4, mnS_row _ _ _ _ (by omega) (by omega)]
          · rw [Array.getElem?_eq_none (by rw [mnS_size]; omega), Array.getElem?_eq_none (by rw [mnS_size]; omega)]
  have hu : T.slotsUsed + 5 + i * 5 + (mnI co).slots.size = T.slotsUsed + 5 + (i + 1) * 5 := by
    rw [show (mnI co).slots.size = 5 from arrV_size _ _ _]
    omega
  show ({ T with heap := ((mnS T cA co i).heap.push (mnI co)).setIfInBounds T.heap.size (mnO cA T.heap.size (i + 1)), slotsUsed := T.slotsUsed + 5 + i * 5 + (mnI co).slots.size } : State) = _
  rw [hh, hu]
  rfl
theorem mnS_top (T : State) (f : JFrame) (cA co : ClassId) (i : Nat) : mnS (T.setTop f) cA co i = (mnS T cA co i).setTop f := rfl
theorem mnS_stand {p : Program} {l : Launch} {e : Env} {R : Room} {s : State} {m : MethodId} {args : Array Value} {below : List Frame} {meth : Method} {c : Code} {T : State} {locs : List Loc} {cells slots : Nat} (X : Stand p l e R s m args below meth c T locs cells slots) (cA co : ClassId) : ∀ i : Nat, Stand p l e R s m args below meth c (mnS T cA co i) locs (cells + 1 + i) (slots + 5 + i * 5)
  | 0 => by
    have h := X.pushed (mnO cA T.heap.size 0)
    rw [mnS_zero T cA co, show (mnO cA T.heap.size 0).slots.size = 5 from arrV_size _ _ _] at h
    exact h
  | i + 1 => by
    have h1 := (mnS_stand X cA co i).pushed (mnI co)
    have h2 : ((mnS T cA co i).pushCell (mnI co)).heap[T.heap.size]? = some (mnO cA T.heap.size i) := by
      show ((mnS T cA co i).heap.push (mnI co))[T.heap.size]? = _
      rw [Array.getElem?_push, if_neg (by rw [mnS_size]; omega), mnS_out]
    have h3 := (h1.stored h2 i (.ref (T.heap.size + 1 + i))).dropFresh (fun x hx => by
      rw [List.mem_singleton] at hx
      rw [hx]
      exact X.heapGrown)
    rw [mnO_put, mnS_next, show (mnI co).slots.size = 5 from arrV_size _ _ _, show slots + 5 + i * 5 + 5 = slots + 5 + (i + 1) * 5 by omega] at h3
    exact h3
theorem mn_fit {E : CtlPost} {e : Env} {d : Bool} {acts : List Action} {s : State} {c comp : ClassId} {k : Class} {ty : FieldType} {v : Value} (hk : s.vm.classes[c]? = some k) (hkind : k.kind = .array comp ty) (hl : ¬ 5 > e.platform.arrayLengthLimit) (hh : ¬ 5 * componentBytes ty > e.platform.maxHeapBytes) (hf : fits ty v = true) (hv : v.isDefault = true) {Q : Addr → Pre} (h1 : s.heap.size < e.platform.maxCells) (h2 : s.slotsUsed + 5 ≤ e.platform.maxSlots) (hq : Q s.heap.size d acts (s.pushCell (arrV c 5 (fun _ => v)))) : wp (Jvm.newArray c 5 v) Q E e d acts s := by
  have g1 : ∀ i w, (Array.replicate 5 v)[i]? = some w → s.fitsSlot c .none i w = true := by
    intro i w hw
    rw [Array.getElem?_replicate] at hw
    split at hw
    · cases hw
      simp [State.fitsSlot, State.slotType?, hk, hkind, hf]
    · cases hw
  have g2 : allocActs (Array.replicate 5 v) s.heap.size acts = acts := by
    unfold allocActs
    rw [if_pos (by rw [Array.all_replicate]; simp [hv])]
  rw [← arrV_new] at hq
  simp only [Jvm.newArray, Jvm.arrayFits, wp_bind', wp_pure', W.ask, W.ite, W.theClass, W.alloc, W.stop, hl, hh, hk, hkind, if_false, Option.some.injEq, exists_eq_left', Array.size_replicate, g2]
  rw [if_neg (by omega)]
  exact ⟨h1, h2, g1, hq⟩
theorem mn_five : (5 : Int32).toNatClampNeg = 5 := by decide
theorem mn_loop {E : CtlPost} {e : Env} {s : State} {cA co : ClassId} {f : Nat → PUnit → Sem (ForInStep PUnit)} (hf : ∀ (i : Nat) (d : Bool) (acts : List Action) (Q : ForInStep PUnit → Pre), i < 5 → (∀ d1 acts1, Q (.yield PUnit.unit) d1 acts1 (mnS s cA co (i + 1))) → wp (f i PUnit.unit) Q E e d acts (mnS s cA co i)) {Q : PUnit → Pre} (hq : ∀ d acts, Q PUnit.unit d acts (mnS s cA co 5)) : ∀ (n i : Nat) (d : Bool) (acts : List Action), i + n = 5 → wp (forIn (List.range' i n) PUnit.unit f) Q E e d acts (mnS s cA co i)
  | 0, i, d, acts, h => by
    rw [List.range'_zero, List.forIn_nil, wp_pure', show i = 5 by omega]
    exact hq d acts
  | n + 1, i, d, acts, h => by
    rw [List.range'_succ, List.forIn_cons, wp_bind']
    refine hf i d acts _ (by omega) (fun d1 acts1 => ?_)
    exact mn_loop hf hq n (i + 1) d1 acts1 (by omega)
set_option maxHeartbeats 4000000 in
theorem mn_make {E : CtlPost} {e : Env} {d : Bool} {acts : List Action} {s : State} {cA co cc : ClassId} {kA kC : Class} (hA : s.vm.classes[cA]? = some kA) (hkA : kA.kind = .array co (.array .int)) (hC : s.vm.classes[co]? = some kC) (hkC : kC.kind = .array cc .int) (hl : ¬ 5 > e.platform.arrayLengthLimit) (hh : ¬ 5 * 4 > e.platform.maxHeapBytes) (h1 : s.heap.size + 6 ≤ e.platform.maxCells) (h2 : s.slotsUsed + 30 ≤ e.platform.maxSlots) {Q : Addr → Pre} (hq : ∀ d1 acts1, Q s.heap.size d1 acts1 (mnS s cA co 5)) : wp (Jvm.Op.multianewarray.make cA [5, 5]) Q E e d acts s := by
  rw [Jvm.Op.multianewarray.make]
  simp only [wp_bind', wp_pure', W.ite, W.theClass, show ¬ (5 : Int32) < 0 by decide, if_false, hA, hkA, Option.some.injEq, exists_eq_left', mn_five]
  refine mn_fit hA hkA hl hh rfl rfl (by omega) (by omega) ?_
  have e0 : s.pushCell (arrV cA 5 (fun _ => Value.null)) = mnS s cA co 0 := by
    rw [← mnS_zero]
    refine congrArg s.pushCell (congrArg (arrV cA 5) (funext fun j => ?_))
    rw [if_neg (by omega)]
  rw [e0]
  simp only [show (List.find? (fun x => decide (x < 0)) [(5 : Int32)]) = none by decide, ite_self]
  rw [wp_bind', Std.Legacy.Range.forIn_eq_forIn_range']
  show wp (forIn (List.range' 0 5) PUnit.unit _) _ E e d acts _
  refine mn_loop (fun i d1 acts1 Q1 hi k1 => ?_) (fun d1 acts1 => ?_) 5 0 d acts rfl
  · rw [wp_bind', Jvm.Op.multianewarray.make]
    simp only [wp_bind', wp_pure', W.ite, W.theClass, show ¬ (5 : Int32) < 0 by decide, if_false, show (mnS s cA co i).vm = s.vm from rfl, hC, hkC, Option.some.injEq, exists_eq_left', mn_five]
    refine mn_fit (s := mnS s cA co i) hC hkC hl hh rfl rfl (by rw [mnS_size]; omega) (by show s.slotsUsed + 5 + i * 5 + 5 ≤ _; omega) ?_
    rw [mnS_size]
    simp only [wp_bind', wp_pure', W.writeLoc]
    refine ⟨mnO cA s.heap.size i, ?_, by simp [mnO, arrV], by rw [show (mnO cA s.heap.size i).slots.size = 5 from arrV_size _ _ _]; exact hi, ?_, ?_⟩
    · show ((mnS s cA co i).heap.push _)[s.heap.size]? = _
      rw [Array.getElem?_push, if_neg (by rw [mnS_size]; omega), mnS_out]
    · show State.fitsSlot _ cA .none i _ = true
      simp [State.fitsSlot, State.slotType?, show (mnS s cA co i).vm = s.vm from rfl, hA, hkA]
      rfl
    · rw [mnO_put]
      have hn := mnS_next s cA co i
      unfold mnI at hn
      show Q1 _ _ _ (((mnS s cA co i).pushCell (arrV co 5 (fun _ => Value.int 0))).setCell s.heap.size (mnO cA s.heap.size (i + 1)))
      rw [hn]
      exact k1 _ _
  · simp only [wp_pure']
    exact hq _ _
/-- 'new int[5][5]': six new cells, the rows zero, the outer one full of them -/
theorem mna_55 {p : Program} {l : Launch} {e : Env} {R : Room} {s : State} {m : MethodId} {args : Array Value} {below : List Frame} {meth : Method} {c : Code} {T : State} {locs : List Loc} {cells slots : Nat} (X : Stand p l e R s m args below meth c T locs cells slots) (hexec : p.tables.exec = Jvm.exec) {own : String} {index : Nat} (hown : s.vm.findClass own = some m.cls) (hclink : (Cond.classLink own index "[[I").before args s = true) (hover : (Cond.arrayOver (.array .int)).before args s = true) (harr : (Cond.arrayClass .int).before args s = true) {g : JFrame} (hg : g.method = m) (hdg : decode c.code g.pc = .ok (.multianewarray index 2, 4)) {rest : List Value} (hstack : g.stack = .int 5 :: .int 5 :: rest) (hcells : cells + 6 ≤ R.cells) (hslots : slots + 30 ≤ R.slots) :
    ∃ (F : State) (cA comp : ClassId), s.vm.findClass ("[" ++ (FieldType.array .int).toString) = some cA ∧ s.vm.findClass (FieldType.array .int).toString = some comp ∧ Stand p l e R s m args below meth c F locs (cells + 6) (slots + 30) ∧ F.heap.size = T.heap.size + 1 + 5 ∧ F.heap[T.heap.size]? = some (arrV cA 5 (fun j => .ref (T.heap.size + 1 + j))) ∧ (∀ j : Nat, j < 5 → F.heap[T.heap.size + 1 + j]? = some (arrV comp 5 (fun _ => .int 0))) ∧ (∀ x : Nat, x < T.heap.size → F.heap[x]? = T.heap[x]?) ∧
      ∀ target, Steps p.tables e below (F.setTop { g with pc := g.pc + 4, stack := .ref T.heap.size :: rest }) target → Steps p.tables e below (T.setTop g) target := by
  subst hg
  obtain ⟨co, cA, kA, hco, hidx, hA, hkA, hnA⟩ := AOI_spec (U := s) hover
  obtain ⟨co1, kC, cc, hco1, hC, hkC⟩ := Cond.arrayClass_spec harr
  have e1 : co1 = co := Option.some.inj (hco1.symm.trans hco)
  subst e1
  obtain ⟨c0, hf0, hcl⟩ := Cond.classLink_spec hown hclink e.platform (by rw [X.admits.platform])
  have e2 : c0 = cA := Option.some.inj (hf0.symm.trans (show s.vm.findClass "[[I" = some cA by rw [show ("[[I" : String) = "[" ++ (FieldType.array FieldType.int).toString by decide +kernel]; exact hnA))
  subst e2
  obtain ⟨q1, q2, q3⟩ := State.classEntry (e := e) X.warmed hcl
  generalize T.vm.noted g.method.cls index (.cls c0) = vm1 at q1 q2 q3
  obtain ⟨kA1, hA1, hA2⟩ := q2.alike.2.2 _ _ hA
  obtain ⟨kC1, hC1, hC2⟩ := q2.alike.2.2 _ _ hC
  obtain ⟨r1, r2⟩ := X.roomAbove hcells hslots
  have X5 := mnS_stand (X.noted q2) c0 co1 5
  refine ⟨mnS (T.setVm vm1) c0 co1 5, c0, co1, hnA, hco, X5, mnS_size (T.setVm vm1) c0 co1 5, ?_, fun j hj => ?_, fun x hx => mnS_old (T.setVm vm1) c0 co1 5 hx, fun target hrest => ?_⟩
  · refine (mnS_out (T.setVm vm1) c0 co1 5).trans (congrArg some ?_)
    unfold mnO arrV
    congr 1
  · exact mnS_row (T.setVm vm1) c0 co1 5 (show T.heap.size < T.heap.size + 1 + j by omega) (show T.heap.size + 1 + j < T.heap.size + 1 + 5 by omega)
  · jvm_step X.here [hexec, hdg]
    simp only [Jvm.Op.multianewarray.sem, wp_bind', W.resolveClassAt_links (State.method?_setTop g X.here.top) q1]
    rw [W.popN, if_neg (by decide)]
    refine ⟨g, State.topJava?_setTop' (s := T.setVm vm1) g X.here.top, [.int 5, .int 5], rest, rfl, hstack, ?_⟩
    simp only [List.mapM_cons, List.mapM_nil, wp_bind', wp_pure']
    refine mn_make (kA := kA1) (kC := kC1) (cc := cc) hA1 (by rw [hA2]; exact hkA) hC1 (by rw [hC2]; exact hkC) (by rw [Launch.admits_arrayLengthLimit X.admits]; decide) (by rw [Launch.admits_maxHeapBytes X.admits]; decide) (by show T.heap.size + 6 ≤ _; omega) (by show T.slotsUsed + 30 ≤ _; omega) (fun d1 acts1 => ?_)
    have eS : ((T.setTop g).setVm vm1).setTop { g with stack := rest } = (T.setVm vm1).setTop { g with stack := rest } := by
      show ((T.setVm vm1).setTop g).setTop _ = _
      rw [State.setTop_setTop]
    rw [eS, mnS_top]
    simp only [wp_bind', W.mark, W.pushRef, State.topJava?_setTop' _ X5.here.top, Option.some.injEq, exists_eq_left', State.setTop_setTop, State.heap_setTop]
    intro acts
    simp [jvm, X5.here.top]
    exact hrest
end
