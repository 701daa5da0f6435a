/-! ===== ministry ===== -/
/-- the rows as a page gives them: the first v passages, the first w people -/
def fP (c : Nat → Nat) (f : Nat → Nat → Nat) : Nat → Nat → Nat → Nat
  | 0 => f
  | v + 1 => upf (upf (upf (fP c f v) 0 v (c (2 + 4 * v) - 48)) 1 v (c (3 + 4 * v) - 48)) 2 v (c (4 + 4 * v) - 48)
def kN (c : Nat) : Nat := (kix c).toNatClampNeg
def fQ (c : Nat → Nat) (B : Nat) (f : Nat → Nat → Nat) : Nat → Nat → Nat → Nat
  | 0 => f
  | v + 1 => upf (upf (upf (upf (upf (fQ c B f v) 3 v (kN (c (B + 1 + 4 * v)))) 4 v (c (B + 2 + 4 * v) - 48)) 5 v (c (B + 3 + 4 * v) - 48)) 6 v 0) 7 v 0
theorem fP_o {c : Nat → Nat} {f : Nat → Nat → Nat} {j i : Nat} (v : Nat) (h : 3 ≤ j ∨ v ≤ i) : fP c f v j i = f j i := by
  induction v with
  | zero => rfl
  | succ v ih =>
    show upf (upf (upf (fP c f v) 0 v _) 1 v _) 2 v _ j i = f j i
    rw [upf_n (by omega), upf_n (by omega), upf_n (by omega)]
    exact ih (by omega)
theorem fP_0 {c : Nat → Nat} {f : Nat → Nat → Nat} {i : Nat} (v : Nat) (h : i < v) : fP c f v 0 i = c (2 + 4 * i) - 48 ∧ fP c f v 1 i = c (3 + 4 * i) - 48 ∧ fP c f v 2 i = c (4 + 4 * i) - 48 := by
  induction v with
  | zero => omega
  | succ v ih =>
    show upf (upf (upf (fP c f v) 0 v _) 1 v _) 2 v _ 0 i = _ ∧ upf (upf (upf (fP c f v) 0 v _) 1 v _) 2 v _ 1 i = _ ∧ upf (upf (upf (fP c f v) 0 v _) 1 v _) 2 v _ 2 i = _
    by_cases z : i = v
    · subst z
      refine ⟨?_, ?_, upf_s⟩
      · rw [upf_n (by omega), upf_n (by omega), upf_s]
      · rw [upf_n (by omega), upf_s]
    · rw [upf_n (by omega), upf_n (by omega), upf_n (by omega), upf_n (by omega), upf_n (by omega), upf_n (by omega), upf_n (by omega), upf_n (by omega), upf_n (by omega)]
      exact ih (by omega)
theorem fQ_o {c : Nat → Nat} {B : Nat} {f : Nat → Nat → Nat} {j i : Nat} (v : Nat) (h : j < 3 ∨ 8 ≤ j ∨ v ≤ i) : fQ c B f v j i = f j i := by
  induction v with
  | zero => rfl
  | succ v ih =>
    show upf (upf (upf (upf (upf (fQ c B f v) 3 v _) 4 v _) 5 v _) 6 v 0) 7 v 0 j i = f j i
    rw [upf_n (by omega), upf_n (by omega), upf_n (by omega), upf_n (by omega), upf_n (by omega)]
    exact ih (by omega)
theorem fQ_i {c : Nat → Nat} {B : Nat} {f : Nat → Nat → Nat} {i : Nat} (v : Nat) (h : i < v) : fQ c B f v 3 i = kN (c (B + 1 + 4 * i)) ∧ fQ c B f v 4 i = c (B + 2 + 4 * i) - 48 ∧ fQ c B f v 5 i = c (B + 3 + 4 * i) - 48 ∧ fQ c B f v 6 i = 0 ∧ fQ c B f v 7 i = 0 := by
  induction v with
  | zero => omega
  | succ v ih =>
    have e : ∀ j, fQ c B f (v + 1) j i = upf (upf (upf (upf (upf (fQ c B f v) 3 v (kN (c (B + 1 + 4 * v)))) 4 v (c (B + 2 + 4 * v) - 48)) 5 v (c (B + 3 + 4 * v) - 48)) 6 v 0) 7 v 0 j i := fun j => rfl
    rw [e 3, e 4, e 5, e 6, e 7]
    by_cases z : i = v
    · subst z
      refine ⟨?_, ?_, ?_, ?_, upf_s⟩
      · rw [upf_n (by omega), upf_n (by omega), upf_n (by omega), upf_n (by omega), upf_s]
      · rw [upf_n (by omega), upf_n (by omega), upf_n (by omega), upf_s]
      · rw [upf_n (by omega), upf_n (by omega), upf_s]
      · rw [upf_n (by omega), upf_s]
    · have o : ∀ j, upf (upf (upf (upf (upf (fQ c B f v) 3 v (kN (c (B + 1 + 4 * v)))) 4 v (c (B + 2 + 4 * v) - 48)) 5 v (c (B + 3 + 4 * v) - 48)) 6 v 0) 7 v 0 j i = fQ c B f v j i := fun j => by
        rw [upf_n (by omega), upf_n (by omega), upf_n (by omega), upf_n (by omega), upf_n (by omega)]
      rw [o 3, o 4, o 5, o 6, o 7]
      exact ih (by omega)
/-- a page that is whole -/
def Wh (pn : Nat) (c : Nat → Nat) (B np nq : Nat) : Prop := 1 ≤ np ∧ np ≤ 7 ∧ 1 ≤ nq ∧ nq ≤ 5 ∧ B = 4 * np + 1 ∧ pn = B + 4 * nq ∧ ∀ k, k < pn → Fit c B k
theorem Wh.pas {pn B np nq i : Nat} {c : Nat → Nat} (h : Wh pn c B np nq) (hi : i < np) : 48 ≤ c (2 + 4 * i) ∧ c (2 + 4 * i) < c 0 ∧ 48 ≤ c (3 + 4 * i) ∧ c (3 + 4 * i) < c 0 ∧ c (3 + 4 * i) ≠ c (2 + 4 * i) ∧ 49 ≤ c (4 + 4 * i) ∧ c (4 + 4 * i) ≤ 57 := by
  obtain ⟨h1, h2, h3, h4, h5, h6, h7⟩ := h
  have a := ((fitP (by omega) (by omega)).mp (h7 (2 + 4 * i) (by omega))).1 (by omega)
  have b := ((fitP (by omega) (by omega)).mp (h7 (3 + 4 * i) (by omega))).2.1 (by omega)
  have d := ((fitP (by omega) (by omega)).mp (h7 (4 + 4 * i) (by omega))).2.2.1 (by omega)
  rw [show 3 + 4 * i - 1 = 2 + 4 * i by omega] at b
  exact ⟨a.1, a.2, b.1, b.2.1, b.2.2, d.1, d.2⟩
theorem Wh.peo {pn B np nq i : Nat} {c : Nat → Nat} (h : Wh pn c B np nq) (hi : i < nq) : kd (c (B + 1 + 4 * i)) ∧ 48 ≤ c (B + 2 + 4 * i) ∧ c (B + 2 + 4 * i) ≤ 57 ∧ 48 ≤ c (B + 3 + 4 * i) ∧ c (B + 3 + 4 * i) ≤ 57 := by
  obtain ⟨h1, h2, h3, h4, h5, h6, h7⟩ := h
  have a := ((fitQ (by omega) (by omega)).mp (h7 (B + 1 + 4 * i) (by omega))).1 (by omega)
  have b := ((fitQ (by omega) (by omega)).mp (h7 (B + 2 + 4 * i) (by omega))).2.1 (by omega)
  have d := ((fitQ (by omega) (by omega)).mp (h7 (B + 3 + 4 * i) (by omega))).2.1 (by omega)
  exact ⟨a, b.1, b.2, d.1, d.2⟩
theorem kN_k {c : Nat} (h : kd c) : kix c = nI (kN c) ∧ kN c ≤ 4 := by
  rcases kix_or c with ⟨-, j, j4, e⟩ | ⟨q, -⟩
  · unfold kN
    rw [e, cl_i (by omega)]
    exact ⟨rfl, j4⟩
  · exact absurd h q
theorem d48 {c : Nat} (h : 48 ≤ c) : nI c - 48 = nI (c - 48) := by rw [i48, pk_sub h]
def sM1 (s : Nat → Nat) (n np nq : Nat) : Nat → Nat := ups (ups (ups s 0 n) 1 np) 2 nq
def sM2 (s : Nat → Nat) (n np nq : Nat) : Nat → Nat := ups (ups (sM1 s n np nq) 3 0) 4 0
theorem XP.cg {M M1 : Mm} {pn : Nat} {pg : Nat → Nat} (h : XP pn pg M) (e1 : M1.1 1 = M.1 1) (e2 : M1.1 2 = M.1 2) : XP pn pg M1 := ⟨by rw [e1]; exact h.1, h.2.1, fun i hi => by rw [e2]; exact h.2.2.1 i hi, h.2.2.2⟩
theorem sX_settle {pn B np nq : Nat} {pg : Nat → Nat} {M : Mm} {s : Nat → Nat} {f : Nat → Nat → Nat} {post : Mm → Prop} (hP : XP pn pg M) (hB : IsB pn (cd pn pg) B) (hW : Wh pn (cd pn pg) B np nq) (hX : HX 3 M s f) (h : ∀ M1 : Mm, outH 3 M M1 → HX 3 M1 (sM2 s (cd pn pg 0 - 48) np nq) (fQ (cd pn pg) B (fP (cd pn pg) f np) nq) → post M1) : w_X2_settle 3 M post := by
  have h52 := hP.2.1
  obtain ⟨w1, w2, w3, w4, w5, w6, w7⟩ := hW
  have hW : Wh pn (cd pn pg) B np nq := ⟨w1, w2, w3, w4, w5, w6, w7⟩
  have c0 := (w7 0 (by omega)).1 rfl
  unfold w_X2_settle w_X5_digitAt
  refine sX_border hP hB (hP.code (k := 0) (by omega) ?_)
  dsimp only
  rw [d48 (by omega)]
  intro M49 e49 M51 e51 M53 e53
  have h49 := hX.sc 0 _ (by decide) e49
  have eb : (nI B - 1) / 4 = nI np := by
    rw [pi_1, pk_sub (by omega), pi_4, pk_div (by omega) (by decide) (by decide)]
    exact congrArg nI (by omega)
  have m7 : (if (7 : Int32) < nI np then (7 : Int32) else nI np) = nI np := if_neg (nI_nlt (a := 7) (b := np) w2 (by decide))
  rw [eb, m7] at e51
  have h51 := h49.sc 1 _ (by decide) e51
  have p51 : XP pn pg M51 := hP.cg (by rw [cpo e51 (by decide), cpo e49 (by decide)]) (by rw [cpo e51 (by decide), cpo e49 (by decide)])
  have eq4 : (M51.1 1 1 - nI B) / 4 = nI nq := by
    rw [p51.1, pk_sub (by omega), pi_4, pk_div (by omega) (by decide) (by decide)]
    exact congrArg nI (by omega)
  have m5 : (if (5 : Int32) < nI nq then (5 : Int32) else nI nq) = nI nq := if_neg (nI_nlt (a := 5) (b := nq) w4 (by decide))
  rw [eq4, m5] at e53
  have h53 := h51.sc 2 _ (by decide) e53
  have o53 : outH 3 M M53 := fun n hn => by rw [cpo e53 (by omega), cpo e51 (by omega), cpo e49 (by omega)]
  have L109 : ∀ m v (M1 : Mm), v + m = nq → outH 3 M M1 → HX 3 M1 (sM1 s (cd pn pg 0 - 48) np nq) (fQ (cd pn pg) B (fP (cd pn pg) f np) v) → w_X2_settle_109 3 post (m + 1) (nI B) (nI v) M1 := by
    intro m
    induction m with
    | zero =>
      intro v M1 hv o1 x1
      obtain rfl : v = nq := by omega
      refine pk_le v v (fun _ M2 e2 M4 e4 => ?_) (fun z => absurd z (by omega)) x1.people
      have x2 := x1.sc 3 0 (by decide) e2
      have x4 := x2.sc 4 0 (by decide) e4
      exact h M4 (fun n hn => by rw [cpo e4 (by omega), cpo e2 (by omega), o1 n hn]) x4
    | succ m ih =>
      intro v M1 hv o1 x1
      have hpe := hW.peo (show v < nq by omega)
      have p1 : XP pn pg M1 := hP.cg (o1 1 (by omega)) (o1 2 (by omega))
      refine pk_le nq v (fun z => absurd z (by omega)) (fun _ => ?_) x1.people
      have eA : nI B + 1 + 4 * nI v = nI (B + 1 + 4 * v) := by rw [nI_1, pi_4, pk_mul, nI_add]
      rw [eA]
      have eB1 : nI (B + 1 + 4 * v) + 1 = nI (B + 2 + 4 * v) := by rw [nI_1]; exact congrArg nI (by omega)
      have eB2 : nI (B + 1 + 4 * v) + 2 = nI (B + 3 + 4 * v) := by rw [pi_2, nI_add]; exact congrArg nI (by omega)
      rw [eB1, eB2]
      refine sX_kindAt p1 (by omega) ⟨vp_i (by omega) (by decide), fun M10 e10 => ?_⟩
      rw [cl_i (by omega), (kN_k hpe.1).1] at e10
      have x10 := x1.wr 3 v _ e10
      have o10 : outH 3 M M10 := fun n hn => by rw [cpo e10 (by omega), o1 n hn]
      have p10 : XP pn pg M10 := hP.cg (o10 1 (by omega)) (o10 2 (by omega))
      refine p10.code (by omega) (fun M15 e15 => ?_)
      rw [cl_i (by omega), d48 hpe.2.1] at e15
      have x15 := x10.wr 4 v _ e15
      have o15 : outH 3 M M15 := fun n hn => by rw [cpo e15 (by omega), o10 n hn]
      have p15 : XP pn pg M15 := hP.cg (o15 1 (by omega)) (o15 2 (by omega))
      refine p15.code (by omega) (fun M20 e20 M22 e22 M24 e24 => ?_)
      rw [cl_i (by omega), d48 hpe.2.2.2.1] at e20
      rw [cl_i (by omega)] at e22 e24
      have x20 := x15.wr 5 v _ e20
      have x22 := x20.wr 6 v 0 e22
      have x24 := x22.wr 7 v 0 e24
      rw [nI_1]
      exact ih (v + 1) M24 (by omega) (fun n hn => by rw [cpo e24 (by omega), cpo e22 (by omega), cpo e20 (by omega), o15 n hn]) x24
  have L46 : ∀ m v (M1 : Mm), v + m = np → outH 3 M M1 → HX 3 M1 (sM1 s (cd pn pg 0 - 48) np nq) (fP (cd pn pg) f v) → w_X2_settle_46 3 post (m + 1) (nI B) (nI v) M1 := by
    intro m
    induction m with
    | zero =>
      intro v M1 hv o1 x1
      obtain rfl : v = np := by omega
      exact pk_le v v (fun _ => ⟨nq + 1, L109 nq 0 M1 (by omega) o1 x1⟩) (fun z => absurd z (by omega)) x1.passages
    | succ m ih =>
      intro v M1 hv o1 x1
      have hpa := hW.pas (show v < np by omega)
      have p1 : XP pn pg M1 := hP.cg (o1 1 (by omega)) (o1 2 (by omega))
      refine pk_le np v (fun z => absurd z (by omega)) (fun _ => ?_) x1.passages
      have eA : (2 : Int32) + 4 * nI v = nI (2 + 4 * v) := by rw [pi_2, pi_4, pk_mul, nI_add]
      rw [eA]
      have eB1 : nI (2 + 4 * v) + 1 = nI (3 + 4 * v) := by rw [nI_1]; exact congrArg nI (by omega)
      have eB2 : nI (2 + 4 * v) + 2 = nI (4 + 4 * v) := by rw [pi_2, nI_add]; exact congrArg nI (by omega)
      rw [eB1, eB2]
      refine p1.code (by omega) ⟨vp_i (by omega) (by decide), fun M31 e31 => ?_⟩
      rw [cl_i (by omega), d48 hpa.1] at e31
      have x31 := x1.wr 0 v _ e31
      have o31 : outH 3 M M31 := fun n hn => by rw [cpo e31 (by omega), o1 n hn]
      have p31 : XP pn pg M31 := hP.cg (o31 1 (by omega)) (o31 2 (by omega))
      refine p31.code (by omega) (fun M36 e36 => ?_)
      rw [cl_i (by omega), d48 hpa.2.2.1] at e36
      have x36 := x31.wr 1 v _ e36
      have o36 : outH 3 M M36 := fun n hn => by rw [cpo e36 (by omega), o31 n hn]
      have p36 : XP pn pg M36 := hP.cg (o36 1 (by omega)) (o36 2 (by omega))
      refine p36.code (by omega) (fun M41 e41 => ?_)
      rw [cl_i (by omega), d48 (by omega)] at e41
      have x41 := x36.wr 2 v _ e41
      rw [nI_1]
      exact ih (v + 1) M41 (by omega) (fun n hn => by rw [cpo e41 (by omega), o36 n hn]) x41
  exact ⟨np + 1, L46 np 0 M53 (by omega) o53 h53⟩
