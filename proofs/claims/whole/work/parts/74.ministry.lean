/-! ===== ministry: the reference's side, and both ===== -/
theorem MP.rd {pn k : Nat} {pg : Nat → Nat} {M : Mm} (hP : MP pn pg M) (hk : k < pn) : M.1 13 k = nI (cd pn pg k) := by
  rw [hP.2.2.1 k hk]
  unfold cd
  rw [if_pos hk]
def oN (M M1 : Mm) : Prop := (∀ n, 9 ≤ n → M1.1 n = M.1 n) ∧ ∀ j, j ≠ 1 → j ≠ 2 → j ≠ 3 → M1.1 0 j = M.1 0 j
theorem oN.w {M M0 M1 : Mm} {n : Nat} {F : Nat → Int32} (h : oN M M0) (hn : 1 ≤ n ∧ n ≤ 8) (e : M1 = wI M0 n F) : oN M M1 := ⟨fun q hq => by rw [cpo e (by omega), h.1 q hq], fun j a b c => by rw [cpo e (by omega), h.2 j a b c]⟩
theorem oN.mp {M M1 : Mm} {pn : Nat} {pg : Nat → Nat} (h : oN M M1) (hP : MP pn pg M) : MP pn pg M1 := ⟨by rw [h.2 19 (by decide) (by decide) (by decide)]; exact hP.1, hP.2.1, fun i hi => by rw [h.1 13 (by decide)]; exact hP.2.2.1 i hi, hP.2.2.2⟩
theorem sM_settle {pn B np nq : Nat} {pg : Nat → Nat} {M : Mm} {s : Nat → Nat} {f : Nat → Nat → Nat} {post : Int32 → Mm → Prop} (hP : MP pn pg M) (hW : Wh pn (cd pn pg) B np nq) (hM : HM M (sM1 s (cd pn pg 0 - 48) np nq) f) (h : ∀ M1 : Mm, oN M M1 → HM M1 (sM1 s (cd pn pg 0 - 48) np nq) (fQ (cd pn pg) B (fP (cd pn pg) f np) nq) → ∀ M2 : Mm, M2 = wI M1 0 (upd (M1.1 0) 12 (0 : Int32)) → (∀ M4 : Mm, M4 = wI M2 0 (upd (M2.1 0) 0 ((M2.1 0 0) + (1 : Int32))) → (∀ M6 : Mm, M6 = wI M4 0 (upd (M4.1 0) 14 (0 : Int32)) → (∀ M8 : Mm, M8 = wI M6 0 (upd (M6.1 0) 19 (0 : Int32)) → (post (M8.1 0 3) M8))))) : ∃ n0, w_X12_ministry_46 post n0 (0 : Int32) M := by
  have h52 := hP.2.1
  obtain ⟨w1, w2, w3, w4, w5, w6, w7⟩ := hW
  have hW : Wh pn (cd pn pg) B np nq := ⟨w1, w2, w3, w4, w5, w6, w7⟩
  have L128 : ∀ m v (M1 : Mm), v + m = nq → oN M M1 → HM M1 (sM1 s (cd pn pg 0 - 48) np nq) (fQ (cd pn pg) B (fP (cd pn pg) f np) v) → w_X12_ministry_128 post (m + 1) (nI (B + 1)) (nI v) M1 := by
    intro m
    induction m with
    | zero =>
      intro v M1 hv o1 x1
      obtain rfl : v = nq := by omega
      exact pk_le v v (fun _ => h M1 o1 x1) (fun z => absurd z (by omega)) x1.people
    | succ m ih =>
      intro v M1 hv o1 x1
      have hpe := hW.peo (show v < nq by omega)
      have p1 := o1.mp hP
      have c1 := cd_le p1.2.2.2 (B + 1 + 4 * v)
      refine pk_le nq v (fun z => absurd z (by omega)) (fun _ => ?_) x1.people
      have eA : nI (B + 1) + 4 * nI v = nI (B + 1 + 4 * v) := by rw [pi_4, pk_mul, nI_add]
      have eB1 : nI (B + 1 + 4 * v) + 1 = nI (B + 2 + 4 * v) := by rw [nI_1]; exact congrArg nI (by omega)
      have eB2 : nI (B + 1 + 4 * v) + 2 = nI (B + 3 + 4 * v) := by rw [pi_2, nI_add]; exact congrArg nI (by omega)
      rw [eA, eB1, eB2]
      refine ⟨vp_i (by omega) (by decide), ?_⟩
      rw [cl_i (show B + 1 + 4 * v < 2 ^ 31 by omega), p1.rd (by omega)]
      refine sM_kindBy c1 ⟨vp_i (by omega) (by decide), fun M15 e15 => ⟨vp_i (by omega) (by decide), fun M18 e18 => ⟨vp_i (by omega) (by decide), fun M21 e21 M23 e23 M25 e25 => ?_⟩⟩⟩
      rw [cl_i (show v < 2 ^ 31 by omega), (kN_k hpe.1).1] at e15
      have x15 := x1.wr 3 v _ e15
      have o15 := o1.w (by omega) e15
      rw [cl_i (show v < 2 ^ 31 by omega), cl_i (show B + 2 + 4 * v < 2 ^ 31 by omega), (o15.mp hP).rd (by omega), d48 hpe.2.1] at e18
      have x18 := x15.wr 4 v _ e18
      have o18 := o15.w (by omega) e18
      rw [cl_i (show v < 2 ^ 31 by omega), cl_i (show B + 3 + 4 * v < 2 ^ 31 by omega), (o18.mp hP).rd (by omega), d48 hpe.2.2.2.1] at e21
      have x21 := x18.wr 5 v _ e21
      have o21 := o18.w (by omega) e21
      rw [cl_i (by omega)] at e23 e25
      have x23 := x21.wr 6 v 0 e23
      have o23 := o21.w (by omega) e23
      have x25 := x23.wr 7 v 0 e25
      have o25 := o23.w (by omega) e25
      rw [nI_1]
      exact ih (v + 1) M25 (by omega) o25 x25
  have L46 : ∀ m v (M1 : Mm), v + m = np → oN M M1 → HM M1 (sM1 s (cd pn pg 0 - 48) np nq) (fP (cd pn pg) f v) → w_X12_ministry_46 post (m + 1) (nI v) M1 := by
    intro m
    induction m with
    | zero =>
      intro v M1 hv o1 x1
      obtain rfl : v = np := by omega
      refine pk_le v v (fun _ => ⟨nq + 1, ?_⟩) (fun z => absurd z (by omega)) x1.passages
      have ep : (2 : Int32) + 4 * (M1.1 0 2) = nI (B + 1) := by
        have : M1.1 0 2 = nI v := x1.passages
        rw [this, pi_2, pi_4, pk_mul, nI_add]
        exact congrArg nI (by omega)
      rw [ep]
      exact L128 nq 0 M1 (by omega) o1 x1
    | succ m ih =>
      intro v M1 hv o1 x1
      have hpa := hW.pas (show v < np by omega)
      have p1 := o1.mp hP
      refine pk_le np v (fun z => absurd z (by omega)) (fun _ => ?_) x1.passages
      have eA : (2 : Int32) + 4 * nI v = nI (2 + 4 * v) := by rw [pi_2, pi_4, pk_mul, nI_add]
      have eB1 : (3 : Int32) + 4 * nI v = nI (3 + 4 * v) := by rw [pi_3, pi_4, pk_mul, nI_add]
      have eB2 : (4 : Int32) + 4 * nI v = nI (4 + 4 * v) := by rw [pi_4, pk_mul, nI_add]
      rw [eA, eB1, eB2]
      refine ⟨vp_i (by omega) (by decide), vp_i (by omega) (by decide), fun M30 e30 => ⟨vp_i (by omega) (by decide), fun M33 e33 => ⟨vp_i (by omega) (by decide), fun M36 e36 => ?_⟩⟩⟩
      rw [cl_i (show v < 2 ^ 31 by omega), cl_i (show 2 + 4 * v < 2 ^ 31 by omega), p1.rd (by omega), d48 hpa.1] at e30
      have x30 := x1.wr 0 v _ e30
      have o30 := o1.w (by omega) e30
      rw [cl_i (show v < 2 ^ 31 by omega), cl_i (show 3 + 4 * v < 2 ^ 31 by omega), (o30.mp hP).rd (by omega), d48 hpa.2.2.1] at e33
      have x33 := x30.wr 1 v _ e33
      have o33 := o30.w (by omega) e33
      rw [cl_i (show v < 2 ^ 31 by omega), cl_i (show 4 + 4 * v < 2 ^ 31 by omega), (o33.mp hP).rd (by omega), d48 (by omega)] at e36
      have x36 := x33.wr 2 v _ e36
      have o36 := o33.w (by omega) e36
      rw [nI_1]
      exact ih (v + 1) M36 (by omega) o36 x36
  exact ⟨np + 1, L46 np 0 M (by omega) ⟨fun _ _ => rfl, fun _ _ _ _ => rfl⟩ hM⟩
theorem sX_whole {pn B r : Nat} {pg : Nat → Nat} {M : Mm} {post : Int32 → Mm → Prop} (hP : XP pn pg M) (hB : IsB pn (cd pn pg) B) (hr : OkF pn (cd pn pg) B r) (h1 : r = pn ∧ B < pn ∧ (pn - B) % 4 = 0 → post 1 M) (h0 : ¬ (r = pn ∧ B < pn ∧ (pn - B) % 4 = 0) → post 0 M) : w_X5_isWhole M post := by
  have h52 := hP.2.1
  have Bl := hB.le
  unfold w_X5_isWhole
  refine sX_border hP hB ?_
  rw [hP.1, pk_sub Bl, pi_4, pk_rem (by omega) (by decide) (by decide)]
  refine pk_le (pn - B) 0 (fun z => h0 (by omega)) (fun z => re_ ((pn - B) % 4) 0 (fun y => h0 (by omega)) (fun y => sX_ff hP hB hr ?_))
  rw [hP.1]
  have := hr.1
  exact re_ r pn (fun w => h0 (fun q => w q.1)) (fun w => h1 ⟨w, by omega, y⟩)
theorem Wh.vd {pn B np nq : Nat} {pg : Nat → Nat} {s : Nat → Nat} {f : Nat → Nat → Nat} (hW : Wh pn (cd pn pg) B np nq) : Vd (sM2 s (cd pn pg 0 - 48) np nq) (fQ (cd pn pg) B (fP (cd pn pg) f np) nq) := by
  have c0 := (hW.2.2.2.2.2.2 0 (by have := hW.1; have := hW.2.2.2.2.1; have := hW.2.2.2.2.2.1; omega)).1 rfl
  have w1 := hW.1
  have w2 := hW.2.1
  have w3 := hW.2.2.1
  have w4 := hW.2.2.2.1
  refine ⟨⟨?_, w2, w4, Nat.zero_le _⟩, Or.inr ⟨?_, w1, w3⟩, fun p hp => ?_, fun i hi => ?_, fun k hk => ?_⟩
  · show cd pn pg 0 - 48 ≤ 5
    omega
  · show 2 ≤ cd pn pg 0 - 48
    omega
  · have hp' : p < np := hp
    have a := hW.pas hp'
    have b := fP_0 (c := cd pn pg) (f := f) np hp'
    rw [fQ_o nq (by omega), fQ_o nq (by omega), fQ_o nq (by omega), b.1, b.2.1, b.2.2]
    show cd pn pg (2 + 4 * p) - 48 < cd pn pg 0 - 48 ∧ cd pn pg (3 + 4 * p) - 48 < cd pn pg 0 - 48 ∧ _
    omega
  · have hi' : i < nq := hi
    have a := hW.peo hi'
    have b := fQ_i (c := cd pn pg) (B := B) (f := fP (cd pn pg) f np) nq hi'
    rw [b.1, b.2.1, b.2.2.1, b.2.2.2.1, b.2.2.2.2]
    have k4 := (kN_k a.1).2
    show _ ∧ _ ∧ _ ∧ 0 < cd pn pg 0 - 48 ∧ _
    omega
  · exact absurd hk (by show ¬ k < 0; omega)
theorem sim_ministry (k : Nat) (MX MM : Mm) (hk : k < 512) (hR : Rel k MX MM) : w_X11_ministry MX (fun r MX1 => w_X12_ministry MM (fun r1 MM1 => r = r1 ∧ Rel (k + 1) MX1 MM1)) := by
  have hR1 := hR.up
  obtain ⟨s, f, pn, pg, cr, cs, hX, hM, v, hP, ⟨c1, c2, c3, c4, c5, c6⟩, h6⟩ := hR
  obtain ⟨B, hB⟩ := IsB_ex pn (cd pn pg)
  obtain ⟨r, hr⟩ := OkF_ex pn B (cd pn pg)
  have hxp := hP.xp
  have hmp := hP.mp
  unfold w_X11_ministry w_X12_ministry
  refine sX_whole hxp hB hr (fun hw => pn_1 ?_) (fun hw => pn_0 ?_)
  · -- the page is whole: what the reference finds first, for the numbers
    have fin : ∀ (np nq : Nat), Wh pn (cd pn pg) B np nq → w_X2_settle 3 MX (fun M6 => ∀ M8 : Mm, M8 = wI M6 1 (upd (M6.1 1) 1 (0 : Int32)) → (∀ M10 : Mm, M10 = wI M8 0 (upd (M8.1 0) 6 (0 : Int32)) → (∀ M12 : Mm, M12 = wI M10 0 (upd (M10.1 0) 7 ((M10.1 0 7) + (1 : Int32))) → (w_X12_read MM (fun r38 M39 => ((¬ (M39.1 0 21) = 0) → (∀ M42 : Mm, M42 = wI M39 0 (upd (M39.1 0) 1 ((M39.1 13 (0 : Int32).toNatClampNeg) - (48 : Int32))) → (∀ M44 : Mm, M44 = wI M42 0 (upd (M42.1 0) 2 (M42.1 0 22)) → (∀ M46 : Mm, M46 = wI M44 0 (upd (M44.1 0) 3 (M44.1 0 23)) → (∃ n0 : Nat, w_X12_ministry_46 (fun r1 MM1 => M12.1 3 3 = r1 ∧ Rel (k + 1) M12 MM1) n0 (0 : Int32) M46))))) ∧ (((M39.1 0 21) = 0) → (M12.1 3 3 = -103 ∧ Rel (k + 1) M12 M39))))))) := by
      intro np nq hW
      have w5 := hW.2.2.2.2.1
      have w6 := hW.2.2.2.2.2.1
      refine sX_settle hxp hB hW hX (fun M6 o6 x6 M8 e8 M10 e10 M12 e12 => ?_)
      refine sM_read hmp hB (fun r1 M39 o39 hRD => ?_)
      obtain ⟨rk, rf⟩ := hRD
      rcases rf with ⟨f1, f2, np', nq', g1, g2, g3, g4, g5, g6, g7, g8⟩ | ⟨f1, f2⟩
      · obtain rfl : np' = np := by omega
        obtain rfl : nq' = nq := by omega
        refine pn_f (by rw [f1]; decide) (fun M42 e42 M44 e44 M46 e46 => ?_)
        have c0 := (hW.2.2.2.2.2.2 0 (by omega)).1 rfl
        have hM39 : HM M39 s f := hM.cg (fun j hj => o39.2 j (by omega) (by omega) (by omega)) (fun n a b => o39.1 n (by omega))
        have p39 := o39.mp hmp
        have z0 : (0 : Int32).toNatClampNeg = 0 := by decide
        rw [z0, p39.rd (by omega), d48 (by omega)] at e42
        have x42 := hM39.sc 0 _ (by decide) e42
        have s22 : M42.1 0 22 = nI np' := by rw [e42, wI_same, pk_un (by decide)]; exact g7
        rw [s22] at e44
        have x44 := x42.sc 1 _ (by decide) e44
        have s23 : M44.1 0 23 = nI nq' := by rw [e44, wI_same, pk_un (by decide), e42, wI_same, pk_un (by decide)]; exact g8
        rw [s23] at e46
        have x46 := x44.sc 2 _ (by decide) e46
        have y46 : ∀ n, n ≠ 0 → M46.1 n = MM.1 n := fun n hn => by rw [cpo e46 hn, cpo e44 hn, cpo e42 hn, o39.1 n hn]
        have y46s : ∀ j, j ≠ 1 → j ≠ 2 → j ≠ 3 → j ≠ 21 → j ≠ 22 → j ≠ 23 → M46.1 0 j = MM.1 0 j := fun j a b c d e g => by rw [e46, wI_same, pk_un c, e44, wI_same, pk_un b, e42, wI_same, pk_un a, o39.2 j d e g]
        have p46 : MP pn pg M46 := ⟨by rw [y46s 19 (by decide) (by decide) (by decide) (by decide) (by decide) (by decide)]; exact hmp.1, hmp.2.1, fun i hi => by rw [y46 13 (by decide)]; exact hmp.2.2.1 i hi, hmp.2.2.2⟩
        refine sM_settle (s := s) (f := f) p46 hW x46 (fun N1 oN1 xN1 N2 d2 N4 d4 N6 d6 N8 d8 => ?_)
        have xN2 := xN1.sc 3 0 (by decide) d2
        have xN4 := xN2.cg (M1 := N4) (fun j hj => by rw [d4, wI_same, pk_un (by omega)]) (fun n a b => cpo d4 (by omega))
        have xN6 := xN4.sc 4 0 (by decide) d6
        have xN8 := xN6.cg (M1 := N8) (fun j hj => by rw [d8, wI_same, pk_un (by omega)]) (fun n a b => cpo d8 (by omega))
        have x12 : ∀ n, n ≠ 0 → n ≠ 1 → M12.1 n = M6.1 n := fun n a b => by rw [cpo e12 a, cpo e10 a, cpo e8 b]
        have X12 := x6.cg (M1 := M12) (fun n a b => x12 n (by omega) (by omega))
        have u0 : ∀ j, j ≠ 6 → j ≠ 7 → M12.1 0 j = MX.1 0 j := fun j a b => by rw [e12, wI_same, pk_un b, e10, wI_same, pk_un a, cpo e8 (by decide), o6 0 (by omega)]
        have u6 : M12.1 0 6 = 0 := by rw [e12, wI_same, pk_un (by decide), e10, wI_same, pk_us]
        have u7 : M12.1 0 7 = nI (cr + 1) := by
          rw [e12, wI_same, pk_us, e10, wI_same, pk_un (by decide), cpo e8 (by decide), o6 0 (by omega), c1, nI_1]
        have u1 : M12.1 1 1 = nI 0 := by rw [cpo e12 (by decide), cpo e10 (by decide), e8, wI_same, pk_us]; rfl
        have v0 : ∀ j, j ≠ 12 → j ≠ 0 → j ≠ 14 → j ≠ 19 → N8.1 0 j = N1.1 0 j := fun j a b c d => by rw [d8, wI_same, pk_un d, d6, wI_same, pk_un c, d4, wI_same, pk_un b, d2, wI_same, pk_un a]
        have v00 : N8.1 0 0 = nI (cr + 1) := by
          rw [d8, wI_same, pk_un (by decide), d6, wI_same, pk_un (by decide), d4, wI_same, pk_us, d2, wI_same, pk_un (by decide), oN1.2 0 (by decide) (by decide) (by decide), y46s 0 (by decide) (by decide) (by decide) (by decide) (by decide) (by decide), c2, nI_1]
        have v19 : N8.1 0 19 = nI 0 := by rw [d8, wI_same, pk_us]; rfl
        have vr : ∀ j, j = 13 ∨ j = 35 ∨ j = 36 → N8.1 0 j = MM.1 0 j := fun j hj => by rw [v0 j (by omega) (by omega) (by omega) (by omega), oN1.2 j (by omega) (by omega) (by omega), y46s j (by omega) (by omega) (by omega) (by omega) (by omega) (by omega)]
        refine ⟨?_, _, _, 0, fun _ => 0, cr + 1, cs, X12, xN8, hW.vd, ⟨u1, v19, by omega, fun i hi => absurd hi (by omega)⟩, ⟨u7, v00, by omega, by rw [u0 8 (by decide) (by decide)]; exact c4, by rw [vr 13 (by omega)]; exact c5, c6⟩, Or.inl ⟨u6, ?_⟩⟩
        · rw [X12.people, xN8.people]
          rfl
        · rw [vr 35 (by omega), vr 36 (by omega)]
          rcases h6 with ⟨-, h6 | ⟨h6, e, he, h7⟩⟩ | ⟨-, h6, h7, -⟩
          · exact Or.inl h6
          · exact Or.inr ⟨h6, e, by omega, h7⟩
          · exact Or.inr ⟨h6, cr, by omega, h7⟩
      · have := OkF_uniq hr rk
        exact absurd hw (by rw [this]; exact f2)
    have h52 := hxp.2.1
    rcases hB with q | ⟨J, q1, q2, q3, q4⟩
    · omega
    · have J6 : J ≤ 6 := by
        by_cases w : J ≤ 6
        · exact w
        · exfalso
          have f29 := hr.2.1 29 (by omega)
          have := ((fitP (by omega) (by omega)).mp f29).2.2.2 (by omega)
          omega
      have nq5 : (pn - B) / 4 ≤ 5 := by
        by_cases w : (pn - B) / 4 ≤ 5
        · exact w
        · exfalso
          have fk := hr.2.1 (B + 20) (by omega)
          have := ((fitQ (by omega) (by omega)).mp fk).2.2 (by omega)
          omega
      exact fin (J + 1) ((pn - B) / 4) ⟨by omega, by omega, by omega, nq5, by omega, by omega, fun k hk => hr.2.1 k (by omega)⟩
  · refine sM_read hmp hB (fun r1 M39 o39 hRD => ?_)
    obtain ⟨rk, rf⟩ := hRD
    rcases rf with ⟨f1, f2, np, nq, g1, g2, g3, g4, g5, g6, g7, g8⟩ | ⟨f1, f2⟩
    · have := OkF_uniq hr rk
      exact absurd ⟨by omega, by omega, by omega⟩ hw
    · exact pn_t f1 ⟨rfl, hR1.fr coX.rf o39.co⟩
