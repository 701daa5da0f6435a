theorem tb_n0 : Cond.instantiable RX0 0 ∈ lw_tbl := List.mem_append_right _ (List.mem_of_getElem? (i := 61) (by decide +kernel))
theorem tb_n1 : Cond.instantiable RX1 0 ∈ lw_tbl := List.mem_append_right _ (List.mem_of_getElem? (i := 54) (by decide +kernel))
theorem tb_n2 : Cond.instantiable RX2 18 ∈ lw_tbl := List.mem_append_right _ (List.mem_of_getElem? (i := 47) (by decide +kernel))
theorem tb_n3 : Cond.instantiable RX3 0 ∈ lw_tbl := List.mem_append_right _ (List.mem_of_getElem? (i := 82) (by decide +kernel))
theorem tb_n4 : Cond.instantiable RX4 0 ∈ lw_tbl := List.mem_append_right _ (List.mem_of_getElem? (i := 68) (by decide +kernel))
theorem tb_n5 : Cond.instantiable RX5 2 ∈ lw_tbl := List.mem_append_right _ (List.mem_of_getElem? (i := 31) (by decide +kernel))
theorem tb_n6 : Cond.instantiable RX6 6 ∈ lw_tbl := List.mem_append_right _ (List.mem_of_getElem? (i := 204) (by decide +kernel))
theorem tb_n8 : Cond.instantiable RX8 8 ∈ lw_tbl := List.mem_append_right _ (List.mem_of_getElem? (i := 231) (by decide +kernel))
theorem tb_n9 : Cond.instantiable RX9 6 ∈ lw_tbl := List.mem_append_right _ (List.mem_of_getElem? (i := 176) (by decide +kernel))
theorem tb_n10 : Cond.instantiable RX10 0 ∈ lw_tbl := List.mem_append_right _ (List.mem_of_getElem? (i := 75) (by decide +kernel))
theorem tb_n11 : Cond.instantiable RX11 9 ∈ lw_tbl := List.mem_append_right _ (List.mem_of_getElem? (i := 23) (by decide +kernel))
theorem tb_n12 : Cond.instantiable RX12 49 ∈ lw_tbl := List.mem_append_right _ (List.mem_of_getElem? (i := 797) (by decide +kernel))
theorem tb_i11 : Cond.initialized RX11 ∈ lw_tbl := List.mem_append_right _ (List.mem_of_getElem? (i := 1) (by decide +kernel))
theorem tb_i12 : Cond.initialized RX12 ∈ lw_tbl := List.mem_append_right _ (List.mem_of_getElem? (i := 12) (by decide +kernel))
theorem tb_iS : Cond.initialized "java/lang/String" ∈ lw_tbl := List.mem_append_right _ (List.mem_of_getElem? (i := 13) (by decide +kernel))
theorem tb_k7 : Cond.classLink RL 7 RX11 ∈ lw_tbl := List.mem_append_right _ (List.mem_of_getElem? (i := 22) (by decide +kernel))
theorem tb_k10 : Cond.classLink RL 10 RX12 ∈ lw_tbl := List.mem_append_right _ (List.mem_of_getElem? (i := 796) (by decide +kernel))
theorem tb_l9 : Cond.methodLink RL 9 yX11_init ∈ lw_tbl := List.mem_append_right _ (List.mem_of_getElem? (i := 24) (by decide +kernel))
theorem tb_l12 : Cond.methodLink RL 12 yX12_init ∈ lw_tbl := List.mem_append_right _ (List.mem_of_getElem? (i := 798) (by decide +kernel))
theorem tb_m11 : Cond.instanceMethod yX11_init ∈ lw_tbl := List.mem_append_right _ (List.mem_of_getElem? (i := 25) (by decide +kernel))
theorem tb_m12 : Cond.instanceMethod yX12_init ∈ lw_tbl := List.mem_append_right _ (List.mem_of_getElem? (i := 799) (by decide +kernel))
theorem tb_aint : Cond.arrayClass .int ∈ lw_tbl := List.mem_append_right _ (List.mem_of_getElem? (i := 45) (by decide +kernel))
theorem tb_along : Cond.arrayClass .long ∈ lw_tbl := List.mem_append_right _ (List.mem_of_getElem? (i := 267) (by decide +kernel))
theorem tb_abyte : Cond.arrayClass .byte ∈ lw_tbl := List.mem_append_right _ (List.mem_of_getElem? (i := 435) (by decide +kernel))
theorem tb_oc : Cond.arrayOver (.object "ShameYards$Clerk") ∈ lw_tbl := List.mem_append_right _ (List.mem_of_getElem? (i := 53) (by decide +kernel))
theorem tb_oi : Cond.arrayOver (.array .int) ∈ lw_tbl := List.mem_append_right _ (List.mem_of_getElem? (i := 182) (by decide +kernel))
theorem tb_cBoy : Cond.castable kBoy kClk ∈ lw_tbl := List.mem_append_right _ (List.mem_of_getElem? (i := 1251) (by decide +kernel))
theorem tb_cMin : Cond.castable kMin kClk ∈ lw_tbl := List.mem_append_right _ (List.mem_of_getElem? (i := 1252) (by decide +kernel))
theorem tb_cWom : Cond.castable kWom kClk ∈ lw_tbl := List.mem_append_right _ (List.mem_of_getElem? (i := 1253) (by decide +kernel))
theorem tb_cLmp : Cond.castable kLmp kClk ∈ lw_tbl := List.mem_append_right _ (List.mem_of_getElem? (i := 1254) (by decide +kernel))
theorem tb_cLM : Cond.castable kLmp kMin ∈ lw_tbl := List.mem_append_right _ (List.mem_of_getElem? (i := 1250) (by decide +kernel))
theorem tb_str : Cond.stringRef RX5 23 "cbmwl" ∈ lw_tbl := List.mem_append_right _ (List.mem_of_getElem? (i := 348) (by decide +kernel))
theorem tb_cs : Cond.laysStatic "java/lang/String" "COMPACT_STRINGS" "Z" ∈ lw_tbl := List.mem_append_right _ (List.mem_of_getElem? (i := 362) (by decide +kernel))
theorem tb_x0 : Cond.methodLinkNest RX11 9 yX5_init "ShameYards" ∈ lw_tbl := List.mem_append_right _ (List.mem_of_getElem? (i := 32) (by decide +kernel))
theorem tb_x1 : Cond.methodLinkNest RX11 18 yX2_init "ShameYards" ∈ lw_tbl := List.mem_append_right _ (List.mem_of_getElem? (i := 48) (by decide +kernel))
theorem tb_x2 : Cond.methodLinkNest RX11 28 yX9_init "ShameYards" ∈ lw_tbl := List.mem_append_right _ (List.mem_of_getElem? (i := 177) (by decide +kernel))
theorem tb_x3 : Cond.methodLinkNest RX11 35 yX6_init "ShameYards" ∈ lw_tbl := List.mem_append_right _ (List.mem_of_getElem? (i := 205) (by decide +kernel))
theorem tb_x4 : Cond.methodLinkNest RX11 42 yX8_init "ShameYards" ∈ lw_tbl := List.mem_append_right _ (List.mem_of_getElem? (i := 232) (by decide +kernel))
theorem tb_x5 : Cond.methodLinkNest RX8 23 yX2_init "ShameYards" ∈ lw_tbl := List.mem_append_right _ (List.mem_of_getElem? (i := 237) (by decide +kernel))
theorem tb_x6 : Cond.methodLinkNest RX2 11 yX1_init "ShameYards" ∈ lw_tbl := List.mem_append_right _ (List.mem_of_getElem? (i := 55) (by decide +kernel))
theorem tb_x7 : Cond.methodLinkNest RX2 14 yX0_init "ShameYards" ∈ lw_tbl := List.mem_append_right _ (List.mem_of_getElem? (i := 62) (by decide +kernel))
theorem tb_x8 : Cond.methodLinkNest RX2 17 yX4_init "ShameYards" ∈ lw_tbl := List.mem_append_right _ (List.mem_of_getElem? (i := 69) (by decide +kernel))
theorem tb_x9 : Cond.methodLinkNest RX2 20 yX10_init "ShameYards" ∈ lw_tbl := List.mem_append_right _ (List.mem_of_getElem? (i := 76) (by decide +kernel))
theorem tb_x10 : Cond.methodLinkNest RX2 23 yX3_init "ShameYards" ∈ lw_tbl := List.mem_append_right _ (List.mem_of_getElem? (i := 83) (by decide +kernel))
theorem tb_x11 : Cond.methodLinkNest RX0 1 yX1_init "ShameYards" ∈ lw_tbl := List.mem_append_right _ (List.mem_of_getElem? (i := 65) (by decide +kernel))
theorem tb_x12 : Cond.methodLinkNest RX4 1 yX1_init "ShameYards" ∈ lw_tbl := List.mem_append_right _ (List.mem_of_getElem? (i := 72) (by decide +kernel))
theorem tb_x13 : Cond.methodLinkNest RX10 1 yX1_init "ShameYards" ∈ lw_tbl := List.mem_append_right _ (List.mem_of_getElem? (i := 79) (by decide +kernel))
theorem tb_x14 : Cond.methodLinkNest RX3 1 yX4_init "ShameYards" ∈ lw_tbl := List.mem_append_right _ (List.mem_of_getElem? (i := 86) (by decide +kernel))
theorem nb_ClkBoy : Cond.not (.castable kClk kBoy) ∈ flatC (Jvm.Cond.and given_1 narrow_1) := by decide +kernel
theorem nb_ClkMin : Cond.not (.castable kClk kMin) ∈ flatC (Jvm.Cond.and given_1 narrow_1) := by decide +kernel
theorem nb_ClkWom : Cond.not (.castable kClk kWom) ∈ flatC (Jvm.Cond.and given_1 narrow_1) := by decide +kernel
theorem nb_ClkLmp : Cond.not (.castable kClk kLmp) ∈ flatC (Jvm.Cond.and given_1 narrow_1) := by decide +kernel
theorem nb_BoyMin : Cond.not (.castable kBoy kMin) ∈ flatC (Jvm.Cond.and given_1 narrow_1) := by decide +kernel
theorem nb_BoyWom : Cond.not (.castable kBoy kWom) ∈ flatC (Jvm.Cond.and given_1 narrow_1) := by decide +kernel
theorem nb_BoyLmp : Cond.not (.castable kBoy kLmp) ∈ flatC (Jvm.Cond.and given_1 narrow_1) := by decide +kernel
theorem nb_MinBoy : Cond.not (.castable kMin kBoy) ∈ flatC (Jvm.Cond.and given_1 narrow_1) := by decide +kernel
theorem nb_MinWom : Cond.not (.castable kMin kWom) ∈ flatC (Jvm.Cond.and given_1 narrow_1) := by decide +kernel
theorem nb_MinLmp : Cond.not (.castable kMin kLmp) ∈ flatC (Jvm.Cond.and given_1 narrow_1) := by decide +kernel
theorem nb_WomBoy : Cond.not (.castable kWom kBoy) ∈ flatC (Jvm.Cond.and given_1 narrow_1) := by decide +kernel
theorem nb_WomMin : Cond.not (.castable kWom kMin) ∈ flatC (Jvm.Cond.and given_1 narrow_1) := by decide +kernel
theorem nb_WomLmp : Cond.not (.castable kWom kLmp) ∈ flatC (Jvm.Cond.and given_1 narrow_1) := by decide +kernel
theorem nb_LmpBoy : Cond.not (.castable kLmp kBoy) ∈ flatC (Jvm.Cond.and given_1 narrow_1) := by decide +kernel
theorem nb_LmpWom : Cond.not (.castable kLmp kWom) ∈ flatC (Jvm.Cond.and given_1 narrow_1) := by decide +kernel
theorem nb_ex : Cond.exactly (Term.string RX5 23) "java/lang/String" ∈ flatC (Jvm.Cond.and given_1 narrow_1) := by decide +kernel
theorem nb_co : Cond.eq (.field (Term.string RX5 23) "java/lang/String" "coder" "B") (.int 0) ∈ flatC (Jvm.Cond.and given_1 narrow_1) := by decide +kernel
theorem nb_ar : Cond.arrayOf (Term.field (Term.string RX5 23) "java/lang/String" "value" "[B") .byte ∈ flatC (Jvm.Cond.and given_1 narrow_1) := by decide +kernel
theorem nb_le : Cond.eq (.length (Term.field (Term.string RX5 23) "java/lang/String" "value" "[B")) (.int (Int32.ofNat 5)) ∈ flatC (Jvm.Cond.and given_1 narrow_1) := by decide +kernel
theorem nb_e0 : Cond.eq (.elem (Term.field (Term.string RX5 23) "java/lang/String" "value" "[B") (.int (Int32.ofNat 0))) (.int 99) ∈ flatC (Jvm.Cond.and given_1 narrow_1) := by decide +kernel
theorem nb_e1 : Cond.eq (.elem (Term.field (Term.string RX5 23) "java/lang/String" "value" "[B") (.int (Int32.ofNat 1))) (.int 98) ∈ flatC (Jvm.Cond.and given_1 narrow_1) := by decide +kernel
theorem nb_e2 : Cond.eq (.elem (Term.field (Term.string RX5 23) "java/lang/String" "value" "[B") (.int (Int32.ofNat 2))) (.int 109) ∈ flatC (Jvm.Cond.and given_1 narrow_1) := by decide +kernel
theorem nb_e3 : Cond.eq (.elem (Term.field (Term.string RX5 23) "java/lang/String" "value" "[B") (.int (Int32.ofNat 3))) (.int 119) ∈ flatC (Jvm.Cond.and given_1 narrow_1) := by decide +kernel
theorem nb_e4 : Cond.eq (.elem (Term.field (Term.string RX5 23) "java/lang/String" "value" "[B") (.int (Int32.ofNat 4))) (.int 108) ∈ flatC (Jvm.Cond.and given_1 narrow_1) := by decide +kernel
theorem nb_cs : Cond.eq (.static "java/lang/String" "COMPACT_STRINGS" "Z") (.int 1) ∈ flatC (Jvm.Cond.and given_1 narrow_1) := by decide +kernel
section STB
variable {s : State} {args : Array Value}
theorem st_cls (hts : ∀ w ∈ lw_tbl, w.before args s = true) : ∃ D : va_G, ∀ (k : Nat) (q : vw_C), vwCl[k]? = some q → u_Kn s q.1 q.2.1 q.2.2 (D.1 k) (D.2 k) := by
  obtain ⟨c0, i0, h0⟩ := u_known (C := RX0) (T := TX0) (N := 0) (n := 0) hts wL_wsX00 (hts _ tb_n0)
  obtain ⟨c1, i1, h1⟩ := u_known (C := RX1) (T := TX1) (N := 0) (n := 0) hts wL_wsX10 (hts _ tb_n1)
  obtain ⟨c2, i2, h2⟩ := u_known (C := RX2) (T := TX2) (N := 18) (n := 18) hts wL_wsX20 (hts _ tb_n2)
  obtain ⟨c3, i3, h3⟩ := u_known (C := RX3) (T := TX3) (N := 0) (n := 0) hts wL_wsX30 (hts _ tb_n3)
  obtain ⟨c4, i4, h4⟩ := u_known (C := RX4) (T := TX4) (N := 0) (n := 0) hts wL_wsX40 (hts _ tb_n4)
  obtain ⟨c5, i5, h5⟩ := u_known (C := RX5) (T := TX5) (N := 2) (n := 2) hts wL_wsX50 (hts _ tb_n5)
  obtain ⟨c6, i6, h6⟩ := u_known (C := RX6) (T := TX6) (N := 6) (n := 6) hts wL_wsX60 (hts _ tb_n6)
  obtain ⟨c7, i7, h7⟩ := u_known (C := RX8) (T := TX8) (N := 8) (n := 8) hts wL_wsX80 (hts _ tb_n8)
  obtain ⟨c8, i8, h8⟩ := u_known (C := RX9) (T := TX9) (N := 6) (n := 6) hts wL_wsX90 (hts _ tb_n9)
  obtain ⟨c9, i9, h9⟩ := u_known (C := RX10) (T := TX10) (N := 0) (n := 0) hts wL_wsX100 (hts _ tb_n10)
  obtain ⟨c10, i10, h10⟩ := u_known (C := RX11) (T := TX11) (N := 9) (n := 9) hts wL_wsX110 (hts _ tb_n11)
  obtain ⟨c11, i11, h11⟩ := u_known (C := RX12) (T := TX12) (N := 49) (n := 49) hts wL_wsX120 (hts _ tb_n12)
  refine ⟨(fun k => match k with | 0 => c0 | 1 => c1 | 2 => c2 | 3 => c3 | 4 => c4 | 5 => c5 | 6 => c6 | 7 => c7 | 8 => c8 | 9 => c9 | 10 => c10 | _ => c11, fun k => match k with | 0 => i0 | 1 => i1 | 2 => i2 | 3 => i3 | 4 => i4 | 5 => i5 | 6 => i6 | 7 => i7 | 8 => i8 | 9 => i9 | 10 => i10 | _ => i11), ?_⟩
  intro k q hq
  match k, hq with
  | 0, hq => cases hq; exact h0
  | 1, hq => cases hq; exact h1
  | 2, hq => cases hq; exact h2
  | 3, hq => cases hq; exact h3
  | 4, hq => cases hq; exact h4
  | 5, hq => cases hq; exact h5
  | 6, hq => cases hq; exact h6
  | 7, hq => cases hq; exact h7
  | 8, hq => cases hq; exact h8
  | 9, hq => cases hq; exact h9
  | 10, hq => cases hq; exact h10
  | 11, hq => cases hq; exact h11
  | k + 12, hq => exact absurd (List.getElem?_eq_some_iff.mp hq).1 (show ¬ k + 12 < 12 by omega)
theorem st_arr (hts : ∀ w ∈ lw_tbl, w.before args s = true) : ∃ cy : Nat → ClassId, ∀ (k : Nat) (q : ClassId × FieldType), (tysC cy)[k]? = some q → ArrOfT s q.1 q.2 ∧ va_RA s q.1 q.2 := by
  obtain ⟨cB, kB, pB, b1, b2, b3⟩ := Cond.arrayClass_spec (hts _ tb_abyte)
  obtain ⟨cI, kI, pI, i1, i2, i3⟩ := Cond.arrayClass_spec (hts _ tb_aint)
  obtain ⟨cJ, kJ, pJ, j1, j2, j3⟩ := Cond.arrayClass_spec (hts _ tb_along)
  obtain ⟨pQ, cQ, kQ, q1, q2, q3, q4, q5⟩ := Cond.arrayOver_spec (hts _ tb_oc)
  obtain ⟨pG, cG, kG, g1, g2, g3, g4, g5⟩ := AOI_spec (U := s) (hts _ tb_oi)
  refine ⟨fun k => match k with | 0 => cB | 1 => cI | 2 => cJ | 3 => cQ | _ => cG, ?_⟩
  intro k q hq
  match k, hq with
  | 0, hq => cases hq; exact ⟨fun n z => ⟨fun k h => (by cases h), kB, b2, pB, b3⟩, b1⟩
  | 1, hq => cases hq; exact ⟨fun n z => ⟨fun k h => (by cases h), kI, i2, pI, i3⟩, i1⟩
  | 2, hq => cases hq; exact ⟨fun n z => ⟨fun k h => (by cases h), kJ, j2, pJ, j3⟩, j1⟩
  | 3, hq => cases hq; exact ⟨fun n z => ⟨fun k h => (by cases h), kQ, q3, pQ, q4⟩, ⟨kQ, pQ, q3, q4, q1, q5⟩⟩
  | 4, hq => cases hq; exact ⟨fun n z => ⟨fun k h => (by cases h), kG, g3, pG, g4⟩, g5⟩
  | k + 5, hq => exact absurd (List.getElem?_eq_some_iff.mp hq).1 (show ¬ k + 5 < 5 by omega)
theorem st_nest (hts : ∀ w ∈ lw_tbl, w.before args s = true) : ∀ x ∈ nestL, va_Nw (.methodLinkNest x.1 x.2.1 x.2.2 "ShameYards") s := List.forall_mem_cons.mpr ⟨va_Nw.of rfl (hts _ tb_x0), List.forall_mem_cons.mpr ⟨va_Nw.of rfl (hts _ tb_x1), List.forall_mem_cons.mpr ⟨va_Nw.of rfl (hts _ tb_x2), List.forall_mem_cons.mpr ⟨va_Nw.of rfl (hts _ tb_x3), List.forall_mem_cons.mpr ⟨va_Nw.of rfl (hts _ tb_x4), List.forall_mem_cons.mpr ⟨va_Nw.of rfl (hts _ tb_x5), List.forall_mem_cons.mpr ⟨va_Nw.of rfl (hts _ tb_x6), List.forall_mem_cons.mpr ⟨va_Nw.of rfl (hts _ tb_x7), List.forall_mem_cons.mpr ⟨va_Nw.of rfl (hts _ tb_x8), List.forall_mem_cons.mpr ⟨va_Nw.of rfl (hts _ tb_x9), List.forall_mem_cons.mpr ⟨va_Nw.of rfl (hts _ tb_x10), List.forall_mem_cons.mpr ⟨va_Nw.of rfl (hts _ tb_x11), List.forall_mem_cons.mpr ⟨va_Nw.of rfl (hts _ tb_x12), List.forall_mem_cons.mpr ⟨va_Nw.of rfl (hts _ tb_x13), List.forall_mem_cons.mpr ⟨va_Nw.of rfl (hts _ tb_x14), fun _ h => absurd h List.not_mem_nil⟩⟩⟩⟩⟩⟩⟩⟩⟩⟩⟩⟩⟩⟩⟩
theorem st_KU (hts : ∀ w ∈ lw_tbl, w.before args s = true) : ∃ (D : va_G) (cy : Nat → ClassId), KU D cy s := by
  obtain ⟨D, hD⟩ := st_cls hts
  obtain ⟨cy, hc⟩ := st_arr hts
  exact ⟨D, cy, ⟨hD, hc⟩, va_AO.of (hts _ tb_oc), hts _ tb_oi, va_Nw.of rfl (hts _ tb_cBoy), va_Nw.of rfl (hts _ tb_cMin), va_Nw.of rfl (hts _ tb_cWom), va_Nw.of rfl (hts _ tb_cLmp), st_nest hts⟩
theorem st_cast (hts : ∀ w ∈ lw_tbl, w.before args s = true) (hgv : (Jvm.Cond.and given_1 narrow_1).before args s = true) : castX s := by
  have hs := flat_of_before _ hgv
  exact ⟨⟨va_Nc.of (hs _ nb_ClkBoy), va_Nc.of (hs _ nb_ClkMin), va_Nc.of (hs _ nb_ClkWom), va_Nc.of (hs _ nb_ClkLmp)⟩, ⟨va_Nc.of (hs _ nb_BoyMin), va_Nc.of (hs _ nb_BoyWom), va_Nc.of (hs _ nb_BoyLmp)⟩, ⟨va_Nc.of (hs _ nb_MinBoy), va_Nc.of (hs _ nb_MinWom), va_Nc.of (hs _ nb_MinLmp)⟩, ⟨va_Nc.of (hs _ nb_WomBoy), va_Nc.of (hs _ nb_WomMin), va_Nc.of (hs _ nb_WomLmp)⟩, ⟨va_Nc.of (hs _ nb_LmpBoy), va_Nc.of (hs _ nb_LmpWom)⟩, va_Nw.of rfl (hts _ tb_cLM)⟩
theorem st_str (hts : ∀ w ∈ lw_tbl, w.before args s = true) (hgv : (Jvm.Cond.and given_1 narrow_1).before args s = true) {A : Nat → Prop} (hA : ∀ a : Nat, a < s.heap.size → ¬ A a) : ∃ u v : Nat, vk_R RX5 23 "cbmwl" u s ∧ vk_S 1 [5] [[99, 98, 109, 119, 108]] (fun _ => u) (fun _ => v) A s s.heap := by
  have hs := flat_of_before _ hgv
  obtain ⟨adK, adV, hS, hT⟩ := vk_Sof (args := args) (s := s) (N := 1) (tm := fun _ => Term.string RX5 23) (len := [5]) (byt := [[99, 98, 109, 119, 108]]) (A := A)
    (fun i hi => by rcases (show i = 0 by omega) with rfl; decide)
    (fun i hi => hs _ nb_ex) (fun i hi => hs _ nb_co) (fun i hi => hs _ nb_ar)
    (fun i hi => by rcases (show i = 0 by omega) with rfl; exact hs _ nb_le)
    (fun i hi j hj => by
      rcases (show i = 0 by omega) with rfl
      have hj : j < 5 := hj
      rcases (show j = 0 ∨ j = 1 ∨ j = 2 ∨ j = 3 ∨ j = 4 by omega) with rfl | rfl | rfl | rfl | rfl
      · exact hs _ nb_e0
      · exact hs _ nb_e1
      · exact hs _ nb_e2
      · exact hs _ nb_e3
      · exact hs _ nb_e4)
    (fun i j hi hj h => absurd (show i = j by omega) h) hA
  refine ⟨adK 0, adV 0, vk_R.of (hts _ tb_str) (hT 0 (by decide)), ⟨fun i hi => ?_, fun i j hi hj _ => by omega⟩⟩
  rcases (show i = 0 by omega) with rfl
  exact hS.1 0 hi
theorem st_Z (hts : ∀ w ∈ lw_tbl, w.before args s = true) (hgv : (Jvm.Cond.and given_1 narrow_1).before args s = true) {A : Nat → Prop} (hA : ∀ a : Nat, a < s.heap.size → ¬ A a) : va_Z "java/lang/String" "COMPACT_STRINGS" "Z" (.int 1) A s s.heap := va_Zof (hts _ tb_cs) (hts _ tb_iS) (va_eqt (flat_of_before _ hgv _ nb_cs)) hA
end STB
/-- a constructor, called in the law: its cells come behind those that stand -/
theorem L_init {p : Program} {l : Launch} {e : Env} {R : Room} {s : State} {m : MethodId} {args : Array Value} {below : List Frame} {meth : Method} {c : Code} {cc : ByteArray} {nL : Nat} {own : String} {Ts : List Cond} {Q : State → Prop} {D : va_G} {cy : Nat → ClassId} {A : Nat → Prop} {cells slots pc : Nat} {H : Heap} {locs : List Loc} {ls : Array Slot} {st : List Value} {W0 : va_W} (C : CallFix p m c cc nL s args Ts own) (hKU : KU D cy s) (hAA : ∀ q : Nat, s.heap.size ≤ q → A q) {y : MethodName} {ws : List Cond} {d index maxL mc ms q ci1 : Nat} {bytes : ByteArray} {fs1 : List Value} {blk : (Nat → Nat) → va_W} (hM : ∀ sz, KI l y ws d D cy ci1 fs1 blk mc ms q sz) (cw : CallB R s args own index y bytes maxL none ws (rmC d mc ms) mc ms 0 ∧ y.name = "<init>" ∧ (Cond.instanceMethod y).before args s = true) (hP : va_P D vwCl (W0 ++ [(q, .inr (ci1, fs1))]) H) (hD : va_D A (W0 ++ [(q, .inr (ci1, fs1))])) (hS : va_S A s.heap H locs) (hls : ls.size = nL) (hW : (st.map fun v => v.category).sum ≤ 8) (hd : decode cc pc = .ok (.invokespecial index, 3)) (hcells : cells + mc ≤ R.cells ∧ slots + ms ≤ R.slots)
    (k : ∀ a : Nat → Nat, a 0 = q → ∀ (H1 : Heap) (locs1 : List Loc), va_P D vwCl (W0 ++ blk a) H1 → va_D A (W0 ++ blk a) → va_S A s.heap H1 locs1 → W p l e R s m args below meth c H1 locs1 (cells + mc) (slots + ms) Q (F0 m (pc + 3) ls st)) : W p l e R s m args below meth c H locs cells slots Q (F0 m pc ls (.ref q :: st)) := by
  have hx : (W0 ++ [(q, .inr (ci1, fs1))] : va_W)[W0.length]? = some (q, .inr (ci1, fs1)) := by simp
  have hPc : va_P D vwCl [(q, .inr (ci1, fs1))] H := by
    intro k9 x h9
    have h1 : k9 < 1 := (List.getElem?_eq_some_iff.mp h9).1
    have h2 : k9 = 0 := by omega
    subst h2
    cases h9
    exact hP _ _ hx
  have hDc : va_D (fun _ => True) [(q, .inr (ci1, fs1))] := ⟨fun i j x y hi hj _ => by
    have := (List.getElem?_eq_some_iff.mp hi).1
    have := (List.getElem?_eq_some_iff.mp hj).1
    simp at *
    omega, fun _ _ _ => trivial⟩
  have hF : ∀ x, va_A [(q, .inr (ci1, fs1))] H.size x → A x := by
    rintro x (⟨k9, e9, h9⟩ | h9)
    · have h1 : k9 < 1 := (List.getElem?_eq_some_iff.mp h9).1
      have h2 : k9 = 0 := by omega
      subst h2
      cases h9
      exact hD.2 _ _ hx
    · exact hAA x (Nat.le_trans hS.1 h9)
  refine va_callv (va_runI (As := []) (rest := st) C (hM H.size) cw ⟨fun a U g mk z => ⟨z.1, z.2.1, z.2.2.1, KU.same (u := U) rfl z.2.2.2.1, z.2.2.2.2⟩, fun U hU hW1 => ⟨rfl, by rw [hU], by rw [hU]; exact hPc, hKU.moved hW1, hDc⟩⟩ rfl rfl hls rfl (lv_room hW) hd hcells) hS (fun x _ h => hF x h) hF (fun u t H1 locs1 ht hvm hp hB hz hk hS1 => ?_)
  have hj := VE_join (W0 := W0) hP hD hk hF (by rw [← ht]; exact hB.1) hB.2
  exact k u hp H1 locs1 hj.1 hj.2 hS1
