/-- what the pure part shows of each pair of calls -/
def Sims (Rel : Nat → Mm → Mm → Prop) : Prop := (∀ (k : Nat) (MX MM : Mm), k < 512 → Rel k MX MM → Rel (k + 1) MX MM) ∧
  (∀ (k : Nat) (MX MM : Mm) (x1 : Int32) , k < 512 → Rel k MX MM → w_X11_letter x1 MX (fun r MX1 => w_X12_letter x1 MM (fun r1 MM1 => r = r1 ∧ Rel (k + 1) MX1 MM1))) ∧
  (∀ (k : Nat) (MX MM : Mm) , k < 512 → Rel k MX MM → w_X11_blank  MX (fun r MX1 => w_X12_blank  MM (fun r1 MM1 => r = r1 ∧ Rel (k + 1) MX1 MM1))) ∧
  (∀ (k : Nat) (MX MM : Mm) , k < 512 → Rel k MX MM → w_X11_fault  MX (fun r MX1 => w_X12_fault  MM (fun r1 MM1 => r = r1 ∧ Rel (k + 1) MX1 MM1))) ∧
  (∀ (k : Nat) (MX MM : Mm) , k < 512 → Rel k MX MM → w_X11_ministry  MX (fun r MX1 => w_X12_ministry  MM (fun r1 MM1 => r = r1 ∧ Rel (k + 1) MX1 MM1))) ∧
  (∀ (k : Nat) (MX MM : Mm) (x1 x2 : Int32) , k < 512 → Rel k MX MM → w_X11_person x1 x2 MX (fun r MX1 => w_X12_person x1 x2 MM (fun r1 MM1 => r = r1 ∧ Rel (k + 1) MX1 MM1))) ∧
  (∀ (k : Nat) (MX MM : Mm) (x1 x2 : Int32) , k < 512 → Rel k MX MM → w_X11_as x1 x2 MX (fun r MX1 => w_X12_as x1 x2 MM (fun r1 MM1 => r = r1 ∧ Rel (k + 1) MX1 MM1))) ∧
  (∀ (k : Nat) (MX MM : Mm) (x1 x2 : Int32) , k < 512 → Rel k MX MM → w_X11_passage x1 x2 MX (fun r MX1 => w_X12_passage x1 x2 MM (fun r1 MM1 => r = r1 ∧ Rel (k + 1) MX1 MM1))) ∧
  (∀ (k : Nat) (MX MM : Mm) (x1 x2 x3 : Int32) , k < 512 → Rel k MX MM → w_X11_steps x1 x2 x3 MX (fun r MX1 => w_X12_steps x1 x2 x3 MM (fun r1 MM1 => r = r1 ∧ Rel (k + 1) MX1 MM1))) ∧
  (∀ (k : Nat) (MX MM : Mm) (x1 x2 x3 : Int32) , k < 512 → Rel k MX MM → w_X11_go x1 x2 x3 MX (fun r MX1 => w_X12_go x1 x2 x3 MM (fun r1 MM1 => r = r1 ∧ Rel (k + 1) MX1 MM1))) ∧
  (∀ (k : Nat) (MX MM : Mm) (x1 : Int32) , k < 512 → Rel k MX MM → w_X11_sin x1 MX (fun r MX1 => w_X12_sin x1 MM (fun r1 MM1 => r = r1 ∧ Rel (k + 1) MX1 MM1))) ∧
  (∀ (k : Nat) (MX MM : Mm) (x1 : Int32) , k < 512 → Rel k MX MM → w_X11_lie x1 MX (fun r MX1 => w_X12_lie x1 MM (fun r1 MM1 => r = r1 ∧ Rel (k + 1) MX1 MM1))) ∧
  (∀ (k : Nat) (MX MM : Mm) (x1 : Int32) , k < 512 → Rel k MX MM → w_X11_confess x1 MX (fun r MX1 => w_X12_confess x1 MM (fun r1 MM1 => r = r1 ∧ Rel (k + 1) MX1 MM1))) ∧
  (∀ (k : Nat) (MX MM : Mm) (x1 x2 : Int32) , k < 512 → Rel k MX MM → w_X11_carpet x1 x2 MX (fun r MX1 => w_X12_carpet x1 x2 MM (fun r1 MM1 => r = r1 ∧ Rel (k + 1) MX1 MM1))) ∧
  (∀ (k : Nat) (MX MM : Mm) (x1 x2 x3 x4 : Int32) , k < 512 → Rel k MX MM → w_X11_far x1 x2 x3 x4 MX (fun r MX1 => w_X12_far x1 x2 x3 x4 MM (fun r1 MM1 => r = r1 ∧ Rel (k + 1) MX1 MM1))) ∧
  (∀ (k : Nat) (MX MM : Mm) (x1 : Int32) , k < 512 → Rel k MX MM → w_X11_send x1 MX (fun r MX1 => w_X12_send x1 MM (fun r1 MM1 => r = r1 ∧ Rel (k + 1) MX1 MM1))) ∧
  (∀ (k : Nat) (MX MM : Mm) (x1 x2 : Int32) , k < 512 → Rel k MX MM → w_X11_pairs x1 x2 MX (fun r MX1 => w_X12_pairs x1 x2 MM (fun r1 MM1 => r = r1 ∧ Rel (k + 1) MX1 MM1))) ∧
  (∀ (k : Nat) (MX MM : Mm) (x1 x2 x3 x4 : Int32) , k < 512 → Rel k MX MM → w_X11_meet x1 x2 x3 x4 MX (fun r MX1 => w_X12_meet x1 x2 x3 x4 MM (fun r1 MM1 => r = r1 ∧ Rel (k + 1) MX1 MM1))) ∧
  (∀ (k : Nat) (MX MM : Mm) (x1 x2 x3 x4 : Int32) , k < 512 → Rel k MX MM → w_X11_see x1 x2 x3 x4 MX (fun r MX1 => w_X12_see x1 x2 x3 x4 MM (fun r1 MM1 => r = r1 ∧ Rel (k + 1) MX1 MM1))) ∧
  (∀ (k : Nat) (MX MM : Mm) , k < 512 → Rel k MX MM → w_X11_forget  MX (fun r MX1 => w_X12_forget  MM (fun r1 MM1 => r = r1 ∧ Rel (k + 1) MX1 MM1))) ∧
  (∀ (k : Nat) (MX MM : Mm) (x1 x2 x3 : Int32) , k < 512 → Rel k MX MM → w_X11_days x1 x2 x3 MX (fun r MX1 => w_X12_days x1 x2 x3 MM (fun r1 MM1 => r = r1 ∧ Rel (k + 1) MX1 MM1))) ∧
  (∀ (k : Nat) (MX MM : Mm) , k < 512 → Rel k MX MM → w_X11_image  MX (fun r MX1 => w_X12_image  MM (fun r1 MM1 => r = r1 ∧ Rel (k + 1) MX1 MM1))) ∧
  (∀ (k : Nat) (MX MM : Mm) , k < 512 → Rel k MX MM → w_X11_restore  MX (fun r MX1 => w_X12_restore  MM (fun r1 MM1 => r = r1 ∧ Rel (k + 1) MX1 MM1))) ∧
  (∀ (k : Nat) (MX MM : Mm) (x1 : Int32) , k < 512 → Rel k MX MM → w_X11_count x1 MX (fun r MX1 => w_X12_count x1 MM (fun r1 MM1 => r = r1 ∧ Rel (k + 1) MX1 MM1))) ∧
  (∀ (k : Nat) (MX MM : Mm) , k < 512 → Rel k MX MM → w_X11_digest  MX (fun r MX1 => w_X12_digest  MM (fun r1 MM1 => r = r1 ∧ Rel (k + 1) MX1 MM1)))
set_option maxHeartbeats 4000000 in
set_option maxRecDepth 100000 in
theorem law_c0 {p : Program} {l : Launch} {e : Env} {s : State} {m : MethodId} {below : List Frame} {meth : Method} {c : Code} {b L : Nat} {xs : Nat → Int32} {Q : State → Prop} {D : va_G} {cy : Nat → ClassId} {ax am : Nat → Nat} {cells slots : Nat} (C : LCx p s m c b L xs D cy ax am) (hcs : cells + 0 ≤ room_1.cells ∧ slots + 0 ≤ room_1.slots) {Rel : Nat → Mm → Mm → Prop} (S : Sims Rel) {k : Nat} (hk : k < 512) {MX MM : Mm} (hR : Rel k MX MM) {v3 : Int32} (g1 : vp_in (v3 + 1) L) (next : ∀ MX1 MM1 : Mm, Rel (k + 1) MX1 MM1 → VL p l e s m below meth c b Q D cy ax am cells slots MX1 MM1 [(0, .ref b), (1, .ref (ax 0)), (2, .ref (am 0)), (3, .int v3)] 828 []) : VL p l e s m below meth c b Q D cy ax am cells slots MX MM [(0, .ref b), (1, .ref (ax 0)), (2, .ref (am 0)), (3, .int v3)] 144 [] := by
  have h := S.2.1 k MX MM (xs (v3 + 1).toNatClampNeg) hk hR
  refine VL_aload_n C 1 dL_law_144 rfl ?_
  refine VL_aload_n C 0 dL_law_145 rfl ?_
  refine VL_iload_n C 3 dL_law_146 rfl ?_
  refine VL_iconst (v := 1) C dL_law_147 (by decide) ?_
  refine VL_iadd C dL_law_148 ?_
  refine VL_sld C dL_law_149 g1 ?_
  refine VL_callXi (rest := []) C (c_X11_letter l D cy ax (AX ax) C.2.2.1 (xs (v3 + 1).toNatClampNeg) MX _ h) (cwV 1 C.1.2.2.2.2 gL_law_X11_letter rfl rfl rfl (by decide +kernel) ⟨by decide, by decide⟩) rfl rfl (Nat.le_of_ble_eq_true rfl) dL_law_150 hcs (fun r0 M0 h => ?_)
  refine VL_aload_n C 2 dL_law_153 rfl ?_
  refine VL_aload_n C 0 dL_law_154 rfl ?_
  refine VL_iload_n C 3 dL_law_155 rfl ?_
  refine VL_iconst (v := 1) C dL_law_156 (by decide) ?_
  refine VL_iadd C dL_law_157 ?_
  refine VL_sld C dL_law_158 g1 ?_
  refine VL_callMi (rest := [.int r0]) C (c_X12_letter l D cy am (AM am) C.2.2.2.1 (xs (v3 + 1).toNatClampNeg) MM _ h) (cwV 1 C.1.2.2.2.2 gL_law_X12_letter rfl rfl rfl (by decide +kernel) ⟨by decide, by decide⟩) rfl rfl (Nat.le_of_ble_eq_true rfl) dL_law_159 hcs (fun r1 M1 h => ?_)
  obtain ⟨h1, h2⟩ := h
  refine VL_icmp_eq C 828 dL_law_162 (by decide) (fun _ => ?_) (fun q => absurd h1 q)
  exact next _ _ h2
set_option maxHeartbeats 4000000 in
set_option maxRecDepth 100000 in
theorem law_c1 {p : Program} {l : Launch} {e : Env} {s : State} {m : MethodId} {below : List Frame} {meth : Method} {c : Code} {b L : Nat} {xs : Nat → Int32} {Q : State → Prop} {D : va_G} {cy : Nat → ClassId} {ax am : Nat → Nat} {cells slots : Nat} (C : LCx p s m c b L xs D cy ax am) (hcs : cells + 0 ≤ room_1.cells ∧ slots + 0 ≤ room_1.slots) {Rel : Nat → Mm → Mm → Prop} (S : Sims Rel) {k : Nat} (hk : k < 512) {MX MM : Mm} (hR : Rel k MX MM) {v3 : Int32}  (next : ∀ MX1 MM1 : Mm, Rel (k + 1) MX1 MM1 → VL p l e s m below meth c b Q D cy ax am cells slots MX1 MM1 [(0, .ref b), (1, .ref (ax 0)), (2, .ref (am 0)), (3, .int v3)] 828 []) : VL p l e s m below meth c b Q D cy ax am cells slots MX MM [(0, .ref b), (1, .ref (ax 0)), (2, .ref (am 0)), (3, .int v3)] 167 [] := by
  have h := S.2.2.1 k MX MM  hk hR
  refine VL_aload_n C 1 dL_law_167 rfl ?_
  refine VL_callXi (rest := []) C (c_X11_blank l D cy ax (AX ax) C.2.2.1  MX _ h) (cwV 0 C.1.2.2.2.2 gL_law_X11_blank rfl rfl rfl (by decide +kernel) ⟨by decide, by decide⟩) rfl rfl (Nat.le_of_ble_eq_true rfl) dL_law_168 hcs (fun r0 M0 h => ?_)
  refine VL_aload_n C 2 dL_law_171 rfl ?_
  refine VL_callMi (rest := [.int r0]) C (c_X12_blank l D cy am (AM am) C.2.2.2.1  MM _ h) (cwV 0 C.1.2.2.2.2 gL_law_X12_blank rfl rfl rfl (by decide +kernel) ⟨by decide, by decide⟩) rfl rfl (Nat.le_of_ble_eq_true rfl) dL_law_172 hcs (fun r1 M1 h => ?_)
  obtain ⟨h1, h2⟩ := h
  refine VL_icmp_eq C 828 dL_law_175 (by decide) (fun _ => ?_) (fun q => absurd h1 q)
  exact next _ _ h2
set_option maxHeartbeats 4000000 in
set_option maxRecDepth 100000 in
theorem law_c2 {p : Program} {l : Launch} {e : Env} {s : State} {m : MethodId} {below : List Frame} {meth : Method} {c : Code} {b L : Nat} {xs : Nat → Int32} {Q : State → Prop} {D : va_G} {cy : Nat → ClassId} {ax am : Nat → Nat} {cells slots : Nat} (C : LCx p s m c b L xs D cy ax am) (hcs : cells + 0 ≤ room_1.cells ∧ slots + 0 ≤ room_1.slots) {Rel : Nat → Mm → Mm → Prop} (S : Sims Rel) {k : Nat} (hk : k < 512) {MX MM : Mm} (hR : Rel k MX MM) {v3 : Int32}  (next : ∀ MX1 MM1 : Mm, Rel (k + 1) MX1 MM1 → VL p l e s m below meth c b Q D cy ax am cells slots MX1 MM1 [(0, .ref b), (1, .ref (ax 0)), (2, .ref (am 0)), (3, .int v3)] 828 []) : VL p l e s m below meth c b Q D cy ax am cells slots MX MM [(0, .ref b), (1, .ref (ax 0)), (2, .ref (am 0)), (3, .int v3)] 180 [] := by
  have h := S.2.2.2.1 k MX MM  hk hR
  refine VL_aload_n C 1 dL_law_180 rfl ?_
  refine VL_callXi (rest := []) C (c_X11_fault l D cy ax (AX ax) C.2.2.1  MX _ h) (cwV 0 C.1.2.2.2.2 gL_law_X11_fault rfl rfl rfl (by decide +kernel) ⟨by decide, by decide⟩) rfl rfl (Nat.le_of_ble_eq_true rfl) dL_law_181 hcs (fun r0 M0 h => ?_)
  refine VL_aload_n C 2 dL_law_184 rfl ?_
  refine VL_callMi (rest := [.int r0]) C (c_X12_fault l D cy am (AM am) C.2.2.2.1  MM _ h) (cwV 0 C.1.2.2.2.2 gL_law_X12_fault rfl rfl rfl (by decide +kernel) ⟨by decide, by decide⟩) rfl rfl (Nat.le_of_ble_eq_true rfl) dL_law_185 hcs (fun r1 M1 h => ?_)
  obtain ⟨h1, h2⟩ := h
  refine VL_icmp_eq C 828 dL_law_188 (by decide) (fun _ => ?_) (fun q => absurd h1 q)
  exact next _ _ h2
set_option maxHeartbeats 4000000 in
set_option maxRecDepth 100000 in
theorem law_c3 {p : Program} {l : Launch} {e : Env} {s : State} {m : MethodId} {below : List Frame} {meth : Method} {c : Code} {b L : Nat} {xs : Nat → Int32} {Q : State → Prop} {D : va_G} {cy : Nat → ClassId} {ax am : Nat → Nat} {cells slots : Nat} (C : LCx p s m c b L xs D cy ax am) (hcs : cells + 0 ≤ room_1.cells ∧ slots + 0 ≤ room_1.slots) {Rel : Nat → Mm → Mm → Prop} (S : Sims Rel) {k : Nat} (hk : k < 512) {MX MM : Mm} (hR : Rel k MX MM) {v3 : Int32}  (next : ∀ MX1 MM1 : Mm, Rel (k + 1) MX1 MM1 → VL p l e s m below meth c b Q D cy ax am cells slots MX1 MM1 [(0, .ref b), (1, .ref (ax 0)), (2, .ref (am 0)), (3, .int v3)] 828 []) : VL p l e s m below meth c b Q D cy ax am cells slots MX MM [(0, .ref b), (1, .ref (ax 0)), (2, .ref (am 0)), (3, .int v3)] 193 [] := by
  have h := S.2.2.2.2.1 k MX MM  hk hR
  refine VL_aload_n C 1 dL_law_193 rfl ?_
  refine VL_callXi (rest := []) C (c_X11_ministry l D cy ax (AX ax) C.2.2.1  MX _ h) (cwV 0 C.1.2.2.2.2 gL_law_X11_ministry rfl rfl rfl (by decide +kernel) ⟨by decide, by decide⟩) rfl rfl (Nat.le_of_ble_eq_true rfl) dL_law_194 hcs (fun r0 M0 h => ?_)
  refine VL_aload_n C 2 dL_law_197 rfl ?_
  refine VL_callMi (rest := [.int r0]) C (c_X12_ministry l D cy am (AM am) C.2.2.2.1  MM _ h) (cwV 0 C.1.2.2.2.2 gL_law_X12_ministry rfl rfl rfl (by decide +kernel) ⟨by decide, by decide⟩) rfl rfl (Nat.le_of_ble_eq_true rfl) dL_law_198 hcs (fun r1 M1 h => ?_)
  obtain ⟨h1, h2⟩ := h
  refine VL_icmp_eq C 828 dL_law_201 (by decide) (fun _ => ?_) (fun q => absurd h1 q)
  exact next _ _ h2
set_option maxHeartbeats 4000000 in
set_option maxRecDepth 100000 in
theorem law_c4 {p : Program} {l : Launch} {e : Env} {s : State} {m : MethodId} {below : List Frame} {meth : Method} {c : Code} {b L : Nat} {xs : Nat → Int32} {Q : State → Prop} {D : va_G} {cy : Nat → ClassId} {ax am : Nat → Nat} {cells slots : Nat} (C : LCx p s m c b L xs D cy ax am) (hcs : cells + 0 ≤ room_1.cells ∧ slots + 0 ≤ room_1.slots) {Rel : Nat → Mm → Mm → Prop} (S : Sims Rel) {k : Nat} (hk : k < 512) {MX MM : Mm} (hR : Rel k MX MM) {v3 : Int32} (g1 : vp_in (v3 + 1) L) (g2 : vp_in (v3 + 2) L) (next : ∀ MX1 MM1 : Mm, Rel (k + 1) MX1 MM1 → VL p l e s m below meth c b Q D cy ax am cells slots MX1 MM1 [(0, .ref b), (1, .ref (ax 0)), (2, .ref (am 0)), (3, .int v3)] 828 []) : VL p l e s m below meth c b Q D cy ax am cells slots MX MM [(0, .ref b), (1, .ref (ax 0)), (2, .ref (am 0)), (3, .int v3)] 206 [] := by
  have h := S.2.2.2.2.2.1 k MX MM (xs (v3 + 1).toNatClampNeg) (xs (v3 + 2).toNatClampNeg) hk hR
  refine VL_aload_n C 1 dL_law_206 rfl ?_
  refine VL_aload_n C 0 dL_law_207 rfl ?_
  refine VL_iload_n C 3 dL_law_208 rfl ?_
  refine VL_iconst (v := 1) C dL_law_209 (by decide) ?_
  refine VL_iadd C dL_law_210 ?_
  refine VL_sld C dL_law_211 g1 ?_
  refine VL_aload_n C 0 dL_law_212 rfl ?_
  refine VL_iload_n C 3 dL_law_213 rfl ?_
  refine VL_iconst (v := 2) C dL_law_214 (by decide) ?_
  refine VL_iadd C dL_law_215 ?_
  refine VL_sld C dL_law_216 g2 ?_
  refine VL_callXi (rest := []) C (c_X11_person l D cy ax (AX ax) C.2.2.1 (xs (v3 + 1).toNatClampNeg) (xs (v3 + 2).toNatClampNeg) MX _ h) (cwV 2 C.1.2.2.2.2 gL_law_X11_person rfl rfl rfl (by decide +kernel) ⟨by decide, by decide⟩) rfl rfl (Nat.le_of_ble_eq_true rfl) dL_law_217 hcs (fun r0 M0 h => ?_)
  refine VL_aload_n C 2 dL_law_220 rfl ?_
  refine VL_aload_n C 0 dL_law_221 rfl ?_
  refine VL_iload_n C 3 dL_law_222 rfl ?_
  refine VL_iconst (v := 1) C dL_law_223 (by decide) ?_
  refine VL_iadd C dL_law_224 ?_
  refine VL_sld C dL_law_225 g1 ?_
  refine VL_aload_n C 0 dL_law_226 rfl ?_
  refine VL_iload_n C 3 dL_law_227 rfl ?_
  refine VL_iconst (v := 2) C dL_law_228 (by decide) ?_
  refine VL_iadd C dL_law_229 ?_
  refine VL_sld C dL_law_230 g2 ?_
  refine VL_callMi (rest := [.int r0]) C (c_X12_person l D cy am (AM am) C.2.2.2.1 (xs (v3 + 1).toNatClampNeg) (xs (v3 + 2).toNatClampNeg) MM _ h) (cwV 2 C.1.2.2.2.2 gL_law_X12_person rfl rfl rfl (by decide +kernel) ⟨by decide, by decide⟩) rfl rfl (Nat.le_of_ble_eq_true rfl) dL_law_231 hcs (fun r1 M1 h => ?_)
  obtain ⟨h1, h2⟩ := h
  refine VL_icmp_eq C 828 dL_law_234 (by decide) (fun _ => ?_) (fun q => absurd h1 q)
  exact next _ _ h2
set_option maxHeartbeats 4000000 in
set_option maxRecDepth 100000 in
theorem law_c5 {p : Program} {l : Launch} {e : Env} {s : State} {m : MethodId} {below : List Frame} {meth : Method} {c : Code} {b L : Nat} {xs : Nat → Int32} {Q : State → Prop} {D : va_G} {cy : Nat → ClassId} {ax am : Nat → Nat} {cells slots : Nat} (C : LCx p s m c b L xs D cy ax am) (hcs : cells + 0 ≤ room_1.cells ∧ slots + 0 ≤ room_1.slots) {Rel : Nat → Mm → Mm → Prop} (S : Sims Rel) {k : Nat} (hk : k < 512) {MX MM : Mm} (hR : Rel k MX MM) {v3 : Int32} (g1 : vp_in (v3 + 1) L) (g2 : vp_in (v3 + 2) L) (next : ∀ MX1 MM1 : Mm, Rel (k + 1) MX1 MM1 → VL p l e s m below meth c b Q D cy ax am cells slots MX1 MM1 [(0, .ref b), (1, .ref (ax 0)), (2, .ref (am 0)), (3, .int v3)] 828 []) : VL p l e s m below meth c b Q D cy ax am cells slots MX MM [(0, .ref b), (1, .ref (ax 0)), (2, .ref (am 0)), (3, .int v3)] 239 [] := by
  have h := S.2.2.2.2.2.2.1 k MX MM (xs (v3 + 1).toNatClampNeg) (xs (v3 + 2).toNatClampNeg) hk hR
  refine VL_aload_n C 1 dL_law_239 rfl ?_
  refine VL_aload_n C 0 dL_law_240 rfl ?_
  refine VL_iload_n C 3 dL_law_241 rfl ?_
  refine VL_iconst (v := 1) C dL_law_242 (by decide) ?_
  refine VL_iadd C dL_law_243 ?_
  refine VL_sld C dL_law_244 g1 ?_
  refine VL_aload_n C 0 dL_law_245 rfl ?_
  refine VL_iload_n C 3 dL_law_246 rfl ?_
  refine VL_iconst (v := 2) C dL_law_247 (by decide) ?_
  refine VL_iadd C dL_law_248 ?_
  refine VL_sld C dL_law_249 g2 ?_
  refine VL_callXi (rest := []) C (c_X11_as l D cy ax (AX ax) C.2.2.1 (xs (v3 + 1).toNatClampNeg) (xs (v3 + 2).toNatClampNeg) MX _ h) (cwV 2 C.1.2.2.2.2 gL_law_X11_as rfl rfl rfl (by decide +kernel) ⟨by decide, by decide⟩) rfl rfl (Nat.le_of_ble_eq_true rfl) dL_law_250 hcs (fun r0 M0 h => ?_)
  refine VL_aload_n C 2 dL_law_253 rfl ?_
  refine VL_aload_n C 0 dL_law_254 rfl ?_
  refine VL_iload_n C 3 dL_law_255 rfl ?_
  refine VL_iconst (v := 1) C dL_law_256 (by decide) ?_
  refine VL_iadd C dL_law_257 ?_
  refine VL_sld C dL_law_258 g1 ?_
  refine VL_aload_n C 0 dL_law_259 rfl ?_
  refine VL_iload_n C 3 dL_law_260 rfl ?_
  refine VL_iconst (v := 2) C dL_law_261 (by decide) ?_
  refine VL_iadd C dL_law_262 ?_
  refine VL_sld C dL_law_263 g2 ?_
  refine VL_callMi (rest := [.int r0]) C (c_X12_as l D cy am (AM am) C.2.2.2.1 (xs (v3 + 1).toNatClampNeg) (xs (v3 + 2).toNatClampNeg) MM _ h) (cwV 2 C.1.2.2.2.2 gL_law_X12_as rfl rfl rfl (by decide +kernel) ⟨by decide, by decide⟩) rfl rfl (Nat.le_of_ble_eq_true rfl) dL_law_264 hcs (fun r1 M1 h => ?_)
  obtain ⟨h1, h2⟩ := h
  refine VL_icmp_eq C 828 dL_law_267 (by decide) (fun _ => ?_) (fun q => absurd h1 q)
  exact next _ _ h2
set_option maxHeartbeats 4000000 in
set_option maxRecDepth 100000 in
theorem law_c6 {p : Program} {l : Launch} {e : Env} {s : State} {m : MethodId} {below : List Frame} {meth : Method} {c : Code} {b L : Nat} {xs : Nat → Int32} {Q : State → Prop} {D : va_G} {cy : Nat → ClassId} {ax am : Nat → Nat} {cells slots : Nat} (C : LCx p s m c b L xs D cy ax am) (hcs : cells + 0 ≤ room_1.cells ∧ slots + 0 ≤ room_1.slots) {Rel : Nat → Mm → Mm → Prop} (S : Sims Rel) {k : Nat} (hk : k < 512) {MX MM : Mm} (hR : Rel k MX MM) {v3 : Int32} (g1 : vp_in (v3 + 1) L) (g2 : vp_in (v3 + 2) L) (next : ∀ MX1 MM1 : Mm, Rel (k + 1) MX1 MM1 → VL p l e s m below meth c b Q D cy ax am cells slots MX1 MM1 [(0, .ref b), (1, .ref (ax 0)), (2, .ref (am 0)), (3, .int v3)] 828 []) : VL p l e s m below meth c b Q D cy ax am cells slots MX MM [(0, .ref b), (1, .ref (ax 0)), (2, .ref (am 0)), (3, .int v3)] 272 [] := by
  have h := S.2.2.2.2.2.2.2.1 k MX MM (xs (v3 + 1).toNatClampNeg) (xs (v3 + 2).toNatClampNeg) hk hR
  refine VL_aload_n C 1 dL_law_272 rfl ?_
  refine VL_aload_n C 0 dL_law_273 rfl ?_
  refine VL_iload_n C 3 dL_law_274 rfl ?_
  refine VL_iconst (v := 1) C dL_law_275 (by decide) ?_
  refine VL_iadd C dL_law_276 ?_
  refine VL_sld C dL_law_277 g1 ?_
  refine VL_aload_n C 0 dL_law_278 rfl ?_
  refine VL_iload_n C 3 dL_law_279 rfl ?_
  refine VL_iconst (v := 2) C dL_law_280 (by decide) ?_
  refine VL_iadd C dL_law_281 ?_
  refine VL_sld C dL_law_282 g2 ?_
  refine VL_callXi (rest := []) C (c_X11_passage l D cy ax (AX ax) C.2.2.1 (xs (v3 + 1).toNatClampNeg) (xs (v3 + 2).toNatClampNeg) MX _ h) (cwV 2 C.1.2.2.2.2 gL_law_X11_passage rfl rfl rfl (by decide +kernel) ⟨by decide, by decide⟩) rfl rfl (Nat.le_of_ble_eq_true rfl) dL_law_283 hcs (fun r0 M0 h => ?_)
  refine VL_aload_n C 2 dL_law_286 rfl ?_
  refine VL_aload_n C 0 dL_law_287 rfl ?_
  refine VL_iload_n C 3 dL_law_288 rfl ?_
  refine VL_iconst (v := 1) C dL_law_289 (by decide) ?_
  refine VL_iadd C dL_law_290 ?_
  refine VL_sld C dL_law_291 g1 ?_
  refine VL_aload_n C 0 dL_law_292 rfl ?_
  refine VL_iload_n C 3 dL_law_293 rfl ?_
  refine VL_iconst (v := 2) C dL_law_294 (by decide) ?_
  refine VL_iadd C dL_law_295 ?_
  refine VL_sld C dL_law_296 g2 ?_
  refine VL_callMi (rest := [.int r0]) C (c_X12_passage l D cy am (AM am) C.2.2.2.1 (xs (v3 + 1).toNatClampNeg) (xs (v3 + 2).toNatClampNeg) MM _ h) (cwV 2 C.1.2.2.2.2 gL_law_X12_passage rfl rfl rfl (by decide +kernel) ⟨by decide, by decide⟩) rfl rfl (Nat.le_of_ble_eq_true rfl) dL_law_297 hcs (fun r1 M1 h => ?_)
  obtain ⟨h1, h2⟩ := h
  refine VL_icmp_eq C 828 dL_law_300 (by decide) (fun _ => ?_) (fun q => absurd h1 q)
  exact next _ _ h2
set_option maxHeartbeats 4000000 in
set_option maxRecDepth 100000 in
theorem law_c7 {p : Program} {l : Launch} {e : Env} {s : State} {m : MethodId} {below : List Frame} {meth : Method} {c : Code} {b L : Nat} {xs : Nat → Int32} {Q : State → Prop} {D : va_G} {cy : Nat → ClassId} {ax am : Nat → Nat} {cells slots : Nat} (C : LCx p s m c b L xs D cy ax am) (hcs : cells + 0 ≤ room_1.cells ∧ slots + 0 ≤ room_1.slots) {Rel : Nat → Mm → Mm → Prop} (S : Sims Rel) {k : Nat} (hk : k < 512) {MX MM : Mm} (hR : Rel k MX MM) {v3 : Int32} (g1 : vp_in (v3 + 1) L) (g2 : vp_in (v3 + 2) L) (g3 : vp_in (v3 + 3) L) (next : ∀ MX1 MM1 : Mm, Rel (k + 1) MX1 MM1 → VL p l e s m below meth c b Q D cy ax am cells slots MX1 MM1 [(0, .ref b), (1, .ref (ax 0)), (2, .ref (am 0)), (3, .int v3)] 828 []) : VL p l e s m below meth c b Q D cy ax am cells slots MX MM [(0, .ref b), (1, .ref (ax 0)), (2, .ref (am 0)), (3, .int v3)] 305 [] := by
  have h := S.2.2.2.2.2.2.2.2.1 k MX MM (xs (v3 + 1).toNatClampNeg) (xs (v3 + 2).toNatClampNeg) (xs (v3 + 3).toNatClampNeg) hk hR
  refine VL_aload_n C 1 dL_law_305 rfl ?_
  refine VL_aload_n C 0 dL_law_306 rfl ?_
  refine VL_iload_n C 3 dL_law_307 rfl ?_
  refine VL_iconst (v := 1) C dL_law_308 (by decide) ?_
  refine VL_iadd C dL_law_309 ?_
  refine VL_sld C dL_law_310 g1 ?_
  refine VL_aload_n C 0 dL_law_311 rfl ?_
  refine VL_iload_n C 3 dL_law_312 rfl ?_
  refine VL_iconst (v := 2) C dL_law_313 (by decide) ?_
  refine VL_iadd C dL_law_314 ?_
  refine VL_sld C dL_law_315 g2 ?_
  refine VL_aload_n C 0 dL_law_316 rfl ?_
  refine VL_iload_n C 3 dL_law_317 rfl ?_
  refine VL_iconst (v := 3) C dL_law_318 (by decide) ?_
  refine VL_iadd C dL_law_319 ?_
  refine VL_sld C dL_law_320 g3 ?_
  refine VL_callXi (rest := []) C (c_X11_steps l D cy ax (AX ax) C.2.2.1 (xs (v3 + 1).toNatClampNeg) (xs (v3 + 2).toNatClampNeg) (xs (v3 + 3).toNatClampNeg) MX _ h) (cwV 3 C.1.2.2.2.2 gL_law_X11_steps rfl rfl rfl (by decide +kernel) ⟨by decide, by decide⟩) rfl rfl (Nat.le_of_ble_eq_true rfl) dL_law_321 hcs (fun r0 M0 h => ?_)
  refine VL_aload_n C 2 dL_law_324 rfl ?_
  refine VL_aload_n C 0 dL_law_325 rfl ?_
  refine VL_iload_n C 3 dL_law_326 rfl ?_
  refine VL_iconst (v := 1) C dL_law_327 (by decide) ?_
  refine VL_iadd C dL_law_328 ?_
  refine VL_sld C dL_law_329 g1 ?_
  refine VL_aload_n C 0 dL_law_330 rfl ?_
  refine VL_iload_n C 3 dL_law_331 rfl ?_
  refine VL_iconst (v := 2) C dL_law_332 (by decide) ?_
  refine VL_iadd C dL_law_333 ?_
  refine VL_sld C dL_law_334 g2 ?_
  refine VL_aload_n C 0 dL_law_335 rfl ?_
  refine VL_iload_n C 3 dL_law_336 rfl ?_
  refine VL_iconst (v := 3) C dL_law_337 (by decide) ?_
  refine VL_iadd C dL_law_338 ?_
  refine VL_sld C dL_law_339 g3 ?_
  refine VL_callMi (rest := [.int r0]) C (c_X12_steps l D cy am (AM am) C.2.2.2.1 (xs (v3 + 1).toNatClampNeg) (xs (v3 + 2).toNatClampNeg) (xs (v3 + 3).toNatClampNeg) MM _ h) (cwV 3 C.1.2.2.2.2 gL_law_X12_steps rfl rfl rfl (by decide +kernel) ⟨by decide, by decide⟩) rfl rfl (Nat.le_of_ble_eq_true rfl) dL_law_340 hcs (fun r1 M1 h => ?_)
  obtain ⟨h1, h2⟩ := h
  refine VL_icmp_eq C 828 dL_law_343 (by decide) (fun _ => ?_) (fun q => absurd h1 q)
  exact next _ _ h2
set_option maxHeartbeats 4000000 in
set_option maxRecDepth 100000 in
theorem law_c8 {p : Program} {l : Launch} {e : Env} {s : State} {m : MethodId} {below : List Frame} {meth : Method} {c : Code} {b L : Nat} {xs : Nat → Int32} {Q : State → Prop} {D : va_G} {cy : Nat → ClassId} {ax am : Nat → Nat} {cells slots : Nat} (C : LCx p s m c b L xs D cy ax am) (hcs : cells + 0 ≤ room_1.cells ∧ slots + 0 ≤ room_1.slots) {Rel : Nat → Mm → Mm → Prop} (S : Sims Rel) {k : Nat} (hk : k < 512) {MX MM : Mm} (hR : Rel k MX MM) {v3 : Int32} (g1 : vp_in (v3 + 1) L) (g2 : vp_in (v3 + 2) L) (g3 : vp_in (v3 + 3) L) (next : ∀ MX1 MM1 : Mm, Rel (k + 1) MX1 MM1 → VL p l e s m below meth c b Q D cy ax am cells slots MX1 MM1 [(0, .ref b), (1, .ref (ax 0)), (2, .ref (am 0)), (3, .int v3)] 828 []) : VL p l e s m below meth c b Q D cy ax am cells slots MX MM [(0, .ref b), (1, .ref (ax 0)), (2, .ref (am 0)), (3, .int v3)] 348 [] := by
  have h := S.2.2.2.2.2.2.2.2.2.1 k MX MM (xs (v3 + 1).toNatClampNeg) (xs (v3 + 2).toNatClampNeg) (xs (v3 + 3).toNatClampNeg) hk hR
  refine VL_aload_n C 1 dL_law_348 rfl ?_
  refine VL_aload_n C 0 dL_law_349 rfl ?_
  refine VL_iload_n C 3 dL_law_350 rfl ?_
  refine VL_iconst (v := 1) C dL_law_351 (by decide) ?_
  refine VL_iadd C dL_law_352 ?_
  refine VL_sld C dL_law_353 g1 ?_
  refine VL_aload_n C 0 dL_law_354 rfl ?_
  refine VL_iload_n C 3 dL_law_355 rfl ?_
  refine VL_iconst (v := 2) C dL_law_356 (by decide) ?_
  refine VL_iadd C dL_law_357 ?_
  refine VL_sld C dL_law_358 g2 ?_
  refine VL_aload_n C 0 dL_law_359 rfl ?_
  refine VL_iload_n C 3 dL_law_360 rfl ?_
  refine VL_iconst (v := 3) C dL_law_361 (by decide) ?_
  refine VL_iadd C dL_law_362 ?_
  refine VL_sld C dL_law_363 g3 ?_
  refine VL_callXi (rest := []) C (c_X11_go l D cy ax (AX ax) C.2.2.1 (xs (v3 + 1).toNatClampNeg) (xs (v3 + 2).toNatClampNeg) (xs (v3 + 3).toNatClampNeg) MX _ h) (cwV 3 C.1.2.2.2.2 gL_law_X11_go rfl rfl rfl (by decide +kernel) ⟨by decide, by decide⟩) rfl rfl (Nat.le_of_ble_eq_true rfl) dL_law_364 hcs (fun r0 M0 h => ?_)
  refine VL_aload_n C 2 dL_law_367 rfl ?_
  refine VL_aload_n C 0 dL_law_368 rfl ?_
  refine VL_iload_n C 3 dL_law_369 rfl ?_
  refine VL_iconst (v := 1) C dL_law_370 (by decide) ?_
  refine VL_iadd C dL_law_371 ?_
  refine VL_sld C dL_law_372 g1 ?_
  refine VL_aload_n C 0 dL_law_373 rfl ?_
  refine VL_iload_n C 3 dL_law_374 rfl ?_
  refine VL_iconst (v := 2) C dL_law_375 (by decide) ?_
  refine VL_iadd C dL_law_376 ?_
  refine VL_sld C dL_law_377 g2 ?_
  refine VL_aload_n C 0 dL_law_378 rfl ?_
  refine VL_iload_n C 3 dL_law_379 rfl ?_
  refine VL_iconst (v := 3) C dL_law_380 (by decide) ?_
  refine VL_iadd C dL_law_381 ?_
  refine VL_sld C dL_law_382 g3 ?_
  refine VL_callMi (rest := [.int r0]) C (c_X12_go l D cy am (AM am) C.2.2.2.1 (xs (v3 + 1).toNatClampNeg) (xs (v3 + 2).toNatClampNeg) (xs (v3 + 3).toNatClampNeg) MM _ h) (cwV 3 C.1.2.2.2.2 gL_law_X12_go rfl rfl rfl (by decide +kernel) ⟨by decide, by decide⟩) rfl rfl (Nat.le_of_ble_eq_true rfl) dL_law_383 hcs (fun r1 M1 h => ?_)
  obtain ⟨h1, h2⟩ := h
  refine VL_icmp_eq C 828 dL_law_386 (by decide) (fun _ => ?_) (fun q => absurd h1 q)
  exact next _ _ h2
set_option maxHeartbeats 4000000 in
set_option maxRecDepth 100000 in
theorem law_c9 {p : Program} {l : Launch} {e : Env} {s : State} {m : MethodId} {below : List Frame} {meth : Method} {c : Code} {b L : Nat} {xs : Nat → Int32} {Q : State → Prop} {D : va_G} {cy : Nat → ClassId} {ax am : Nat → Nat} {cells slots : Nat} (C : LCx p s m c b L xs D cy ax am) (hcs : cells + 0 ≤ room_1.cells ∧ slots + 0 ≤ room_1.slots) {Rel : Nat → Mm → Mm → Prop} (S : Sims Rel) {k : Nat} (hk : k < 512) {MX MM : Mm} (hR : Rel k MX MM) {v3 : Int32} (g1 : vp_in (v3 + 1) L) (next : ∀ MX1 MM1 : Mm, Rel (k + 1) MX1 MM1 → VL p l e s m below meth c b Q D cy ax am cells slots MX1 MM1 [(0, .ref b), (1, .ref (ax 0)), (2, .ref (am 0)), (3, .int v3)] 828 []) : VL p l e s m below meth c b Q D cy ax am cells slots MX MM [(0, .ref b), (1, .ref (ax 0)), (2, .ref (am 0)), (3, .int v3)] 391 [] := by
  have h := S.2.2.2.2.2.2.2.2.2.2.1 k MX MM (xs (v3 + 1).toNatClampNeg) hk hR
  refine VL_aload_n C 1 dL_law_391 rfl ?_
  refine VL_aload_n C 0 dL_law_392 rfl ?_
  refine VL_iload_n C 3 dL_law_393 rfl ?_
  refine VL_iconst (v := 1) C dL_law_394 (by decide) ?_
  refine VL_iadd C dL_law_395 ?_
  refine VL_sld C dL_law_396 g1 ?_
  refine VL_callXi (rest := []) C (c_X11_sin l D cy ax (AX ax) C.2.2.1 (xs (v3 + 1).toNatClampNeg) MX _ h) (cwV 1 C.1.2.2.2.2 gL_law_X11_sin rfl rfl rfl (by decide +kernel) ⟨by decide, by decide⟩) rfl rfl (Nat.le_of_ble_eq_true rfl) dL_law_397 hcs (fun r0 M0 h => ?_)
  refine VL_aload_n C 2 dL_law_400 rfl ?_
  refine VL_aload_n C 0 dL_law_401 rfl ?_
  refine VL_iload_n C 3 dL_law_402 rfl ?_
  refine VL_iconst (v := 1) C dL_law_403 (by decide) ?_
  refine VL_iadd C dL_law_404 ?_
  refine VL_sld C dL_law_405 g1 ?_
  refine VL_callMi (rest := [.int r0]) C (c_X12_sin l D cy am (AM am) C.2.2.2.1 (xs (v3 + 1).toNatClampNeg) MM _ h) (cwV 1 C.1.2.2.2.2 gL_law_X12_sin rfl rfl rfl (by decide +kernel) ⟨by decide, by decide⟩) rfl rfl (Nat.le_of_ble_eq_true rfl) dL_law_406 hcs (fun r1 M1 h => ?_)
  obtain ⟨h1, h2⟩ := h
  refine VL_icmp_eq C 828 dL_law_409 (by decide) (fun _ => ?_) (fun q => absurd h1 q)
  exact next _ _ h2
set_option maxHeartbeats 4000000 in
set_option maxRecDepth 100000 in
theorem law_c10 {p : Program} {l : Launch} {e : Env} {s : State} {m : MethodId} {below : List Frame} {meth : Method} {c : Code} {b L : Nat} {xs : Nat → Int32} {Q : State → Prop} {D : va_G} {cy : Nat → ClassId} {ax am : Nat → Nat} {cells slots : Nat} (C : LCx p s m c b L xs D cy ax am) (hcs : cells + 0 ≤ room_1.cells ∧ slots + 0 ≤ room_1.slots) {Rel : Nat → Mm → Mm → Prop} (S : Sims Rel) {k : Nat} (hk : k < 512) {MX MM : Mm} (hR : Rel k MX MM) {v3 : Int32} (g1 : vp_in (v3 + 1) L) (next : ∀ MX1 MM1 : Mm, Rel (k + 1) MX1 MM1 → VL p l e s m below meth c b Q D cy ax am cells slots MX1 MM1 [(0, .ref b), (1, .ref (ax 0)), (2, .ref (am 0)), (3, .int v3)] 828 []) : VL p l e s m below meth c b Q D cy ax am cells slots MX MM [(0, .ref b), (1, .ref (ax 0)), (2, .ref (am 0)), (3, .int v3)] 414 [] := by
  have h := S.2.2.2.2.2.2.2.2.2.2.2.1 k MX MM (xs (v3 + 1).toNatClampNeg) hk hR
  refine VL_aload_n C 1 dL_law_414 rfl ?_
  refine VL_aload_n C 0 dL_law_415 rfl ?_
  refine VL_iload_n C 3 dL_law_416 rfl ?_
  refine VL_iconst (v := 1) C dL_law_417 (by decide) ?_
  refine VL_iadd C dL_law_418 ?_
  refine VL_sld C dL_law_419 g1 ?_
  refine VL_callXi (rest := []) C (c_X11_lie l D cy ax (AX ax) C.2.2.1 (xs (v3 + 1).toNatClampNeg) MX _ h) (cwV 1 C.1.2.2.2.2 gL_law_X11_lie rfl rfl rfl (by decide +kernel) ⟨by decide, by decide⟩) rfl rfl (Nat.le_of_ble_eq_true rfl) dL_law_420 hcs (fun r0 M0 h => ?_)
  refine VL_aload_n C 2 dL_law_423 rfl ?_
  refine VL_aload_n C 0 dL_law_424 rfl ?_
  refine VL_iload_n C 3 dL_law_425 rfl ?_
  refine VL_iconst (v := 1) C dL_law_426 (by decide) ?_
  refine VL_iadd C dL_law_427 ?_
  refine VL_sld C dL_law_428 g1 ?_
  refine VL_callMi (rest := [.int r0]) C (c_X12_lie l D cy am (AM am) C.2.2.2.1 (xs (v3 + 1).toNatClampNeg) MM _ h) (cwV 1 C.1.2.2.2.2 gL_law_X12_lie rfl rfl rfl (by decide +kernel) ⟨by decide, by decide⟩) rfl rfl (Nat.le_of_ble_eq_true rfl) dL_law_429 hcs (fun r1 M1 h => ?_)
  obtain ⟨h1, h2⟩ := h
  refine VL_icmp_eq C 828 dL_law_432 (by decide) (fun _ => ?_) (fun q => absurd h1 q)
  exact next _ _ h2
set_option maxHeartbeats 4000000 in
set_option maxRecDepth 100000 in
theorem law_c11 {p : Program} {l : Launch} {e : Env} {s : State} {m : MethodId} {below : List Frame} {meth : Method} {c : Code} {b L : Nat} {xs : Nat → Int32} {Q : State → Prop} {D : va_G} {cy : Nat → ClassId} {ax am : Nat → Nat} {cells slots : Nat} (C : LCx p s m c b L xs D cy ax am) (hcs : cells + 0 ≤ room_1.cells ∧ slots + 0 ≤ room_1.slots) {Rel : Nat → Mm → Mm → Prop} (S : Sims Rel) {k : Nat} (hk : k < 512) {MX MM : Mm} (hR : Rel k MX MM) {v3 : Int32} (g1 : vp_in (v3 + 1) L) (next : ∀ MX1 MM1 : Mm, Rel (k + 1) MX1 MM1 → VL p l e s m below meth c b Q D cy ax am cells slots MX1 MM1 [(0, .ref b), (1, .ref (ax 0)), (2, .ref (am 0)), (3, .int v3)] 828 []) : VL p l e s m below meth c b Q D cy ax am cells slots MX MM [(0, .ref b), (1, .ref (ax 0)), (2, .ref (am 0)), (3, .int v3)] 437 [] := by
  have h := S.2.2.2.2.2.2.2.2.2.2.2.2.1 k MX MM (xs (v3 + 1).toNatClampNeg) hk hR
  refine VL_aload_n C 1 dL_law_437 rfl ?_
  refine VL_aload_n C 0 dL_law_438 rfl ?_
  refine VL_iload_n C 3 dL_law_439 rfl ?_
  refine VL_iconst (v := 1) C dL_law_440 (by decide) ?_
  refine VL_iadd C dL_law_441 ?_
  refine VL_sld C dL_law_442 g1 ?_
  refine VL_callXi (rest := []) C (c_X11_confess l D cy ax (AX ax) C.2.2.1 (xs (v3 + 1).toNatClampNeg) MX _ h) (cwV 1 C.1.2.2.2.2 gL_law_X11_confess rfl rfl rfl (by decide +kernel) ⟨by decide, by decide⟩) rfl rfl (Nat.le_of_ble_eq_true rfl) dL_law_443 hcs (fun r0 M0 h => ?_)
  refine VL_aload_n C 2 dL_law_446 rfl ?_
  refine VL_aload_n C 0 dL_law_447 rfl ?_
  refine VL_iload_n C 3 dL_law_448 rfl ?_
  refine VL_iconst (v := 1) C dL_law_449 (by decide) ?_
  refine VL_iadd C dL_law_450 ?_
  refine VL_sld C dL_law_451 g1 ?_
  refine VL_callMi (rest := [.int r0]) C (c_X12_confess l D cy am (AM am) C.2.2.2.1 (xs (v3 + 1).toNatClampNeg) MM _ h) (cwV 1 C.1.2.2.2.2 gL_law_X12_confess rfl rfl rfl (by decide +kernel) ⟨by decide, by decide⟩) rfl rfl (Nat.le_of_ble_eq_true rfl) dL_law_452 hcs (fun r1 M1 h => ?_)
  obtain ⟨h1, h2⟩ := h
  refine VL_icmp_eq C 828 dL_law_455 (by decide) (fun _ => ?_) (fun q => absurd h1 q)
  exact next _ _ h2
