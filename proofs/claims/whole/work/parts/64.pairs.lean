/-! ===== pairs: the pure part ===== -/
abbrev Pg : Type := Nat × Nat × (Nat → Nat)
def bt (mo pc : Nat) (c : Pg) : Prop := mo < c.1 ∨ (mo = c.1 ∧ pc < c.2.1)
def btb (mo pc : Nat) (c : Pg) : Bool := decide (mo < c.1) || (decide (mo = c.1) && decide (pc < c.2.1))
theorem btb_t {mo pc : Nat} {c : Pg} : btb mo pc c = true ↔ bt mo pc c := by
  unfold btb bt
  simp
theorem btb_f {mo pc : Nat} {c : Pg} : btb mo pc c = false ↔ ¬ bt mo pc c := by
  rw [← btb_t]
  cases btb mo pc c <;> simp
def lf (mo pc : Nat) (a : Nat → Nat) (c : Pg) : Pg := if btb mo pc c = true then (mo, pc, a) else c
def bU (b : Nat → Bool) (o : Nat) : Nat → Bool := fun q => b q || decide (q = o)
def PD (P : Nat) (st : Nat → Nat → Nat) : Nat → Nat → (Nat → Nat) → (Nat → Bool) → Nat → Nat → Pg → Pg
  | 0, _, a, _, mo, pc, c => lf mo pc a c
  | k + 1, v, a, b, mo, pc, c => if btb mo pc c = true then (if b v = true then PD P st k (v + 1) a b mo pc c else fd (fun o c => if b o = true then c else PD P st k (v + 1) (upN (upN a v (o + 1)) o (v + 1)) (bU b o) (max mo (st v (o + 1))) (pc + 2) c) (P - (v + 1)) (v + 1) (PD P st k (v + 1) (upN a v 0) b (max mo (st v 0)) pc c)) else c
def PE (P : Nat) (st : Nat → Nat → Nat) : Nat → Nat → (Nat → Nat) → (Nat → Bool) → Nat → Nat → Pg → Pg
  | 0, _, a, _, mo, pc, c => lf mo pc a c
  | k + 1, v, a, b, mo, pc, c => if b v = true then PE P st k (v + 1) a b mo pc c else fd (fun o c => if b o = true then c else PE P st k (v + 1) (upN (upN a v (o + 1)) o (v + 1)) (bU b o) (max mo (st v (o + 1))) (pc + 2) c) (P - (v + 1)) (v + 1) (PE P st k (v + 1) (upN a v 0) b (max mo (st v 0)) pc c)
theorem PE_cut (P : Nat) (st : Nat → Nat → Nat) (k : Nat) : ∀ v a b mo pc (c : Pg), ¬ bt mo pc c → PE P st k v a b mo pc c = c := by
  induction k with
  | zero =>
    intro v a b mo pc c h
    show lf mo pc a c = c
    unfold lf
    rw [btb_f.mpr h]
    rfl
  | succ k ih =>
    intro v a b mo pc c h
    show (if b v = true then PE P st k (v + 1) a b mo pc c else fd (fun o c => if b o = true then c else PE P st k (v + 1) (upN (upN a v (o + 1)) o (v + 1)) (bU b o) (max mo (st v (o + 1))) (pc + 2) c) (P - (v + 1)) (v + 1) (PE P st k (v + 1) (upN a v 0) b (max mo (st v 0)) pc c)) = c
    by_cases z : b v = true
    · rw [if_pos z]
      exact ih _ _ _ _ _ c h
    · rw [if_neg z, ih _ _ _ _ _ c (by unfold bt at h ⊢; omega)]
      refine fd_id (fun d : Pg => d = c) (fun o d hd => ?_) _ _ c rfl
      rw [hd]
      show (if b o = true then c else PE P st k (v + 1) (upN (upN a v (o + 1)) o (v + 1)) (bU b o) (max mo (st v (o + 1))) (pc + 2) c) = c
      by_cases y : b o = true
      · rw [if_pos y]
      · rw [if_neg y]
        exact ih _ _ _ _ _ c (by unfold bt at h ⊢; omega)
theorem fd_congr {α : Type} {g1 g2 : Nat → α → α} (h : ∀ p c, g1 p c = g2 p c) : ∀ m p c, fd g1 m p c = fd g2 m p c := by
  intro m
  induction m with
  | zero => intro p c; rfl
  | succ m ih =>
    intro p c
    show fd g1 m (p + 1) (g1 p c) = fd g2 m (p + 1) (g2 p c)
    rw [h p c]
    exact ih (p + 1) (g2 p c)
theorem PD_PE (P : Nat) (st : Nat → Nat → Nat) (k : Nat) : ∀ v a b mo pc (c : Pg), PD P st k v a b mo pc c = PE P st k v a b mo pc c := by
  induction k with
  | zero => intro v a b mo pc c; rfl
  | succ k ih =>
    intro v a b mo pc c
    by_cases z : bt mo pc c
    · show (if btb mo pc c = true then (if b v = true then PD P st k (v + 1) a b mo pc c else fd (fun o c => if b o = true then c else PD P st k (v + 1) (upN (upN a v (o + 1)) o (v + 1)) (bU b o) (max mo (st v (o + 1))) (pc + 2) c) (P - (v + 1)) (v + 1) (PD P st k (v + 1) (upN a v 0) b (max mo (st v 0)) pc c)) else c) = (if b v = true then PE P st k (v + 1) a b mo pc c else fd (fun o c => if b o = true then c else PE P st k (v + 1) (upN (upN a v (o + 1)) o (v + 1)) (bU b o) (max mo (st v (o + 1))) (pc + 2) c) (P - (v + 1)) (v + 1) (PE P st k (v + 1) (upN a v 0) b (max mo (st v 0)) pc c))
      rw [if_pos (btb_t.mpr z)]
      by_cases y : b v = true
      · rw [if_pos y, if_pos y]
        exact ih _ _ _ _ _ c
      · rw [if_neg y, if_neg y, ih _ _ _ _ _ c]
        refine fd_congr (fun o d => ?_) _ _ _
        rw [ih]
    · rw [PE_cut P st (k + 1) v a b mo pc c z]
      show (if btb mo pc c = true then _ else c) = c
      rw [if_neg (by rw [btb_f.mpr z]; decide)]
def okA (a : Nat → Nat) : Nat → Bool
  | 0 => true
  | n + 1 => okA a n && (decide (a n = 0) || (decide (a n ≠ n + 1) && decide (a (a n - 1) = n + 1)))
theorem okA_get {a : Nat → Nat} {P : Nat} (h : okA a P = true) : ∀ v, v < P → a v = 0 ∨ (a v ≠ v + 1 ∧ a (a v - 1) = v + 1) := by
  induction P with
  | zero => intro v hv; omega
  | succ P ih =>
    have h' : (okA a P && (decide (a P = 0) || (decide (a P ≠ P + 1) && decide (a (a P - 1) = P + 1)))) = true := h
    rw [Bool.and_eq_true] at h'
    intro v hv
    by_cases z : v = P
    · rw [z]
      have h2 := h'.2
      simp only [Bool.or_eq_true, Bool.and_eq_true, decide_eq_true_eq] at h2
      exact h2
    · exact ih h'.1 v (by omega)
theorem okA_mk {a : Nat → Nat} {P : Nat} (h : ∀ v, v < P → a v = 0 ∨ (a v ≠ v + 1 ∧ a (a v - 1) = v + 1)) : okA a P = true := by
  induction P with
  | zero => rfl
  | succ P ih =>
    show (okA a P && (decide (a P = 0) || (decide (a P ≠ P + 1) && decide (a (a P - 1) = P + 1)))) = true
    rw [Bool.and_eq_true]
    refine ⟨ih (fun v hv => h v (by omega)), ?_⟩
    simp only [Bool.or_eq_true, Bool.and_eq_true, decide_eq_true_eq]
    exact h P (by omega)
def mx (st : Nat → Nat → Nat) (a : Nat → Nat) : Nat → Nat
  | 0 => 0
  | n + 1 => max (mx st a n) (st n (a n))
def ct (a : Nat → Nat) : Nat → Nat
  | 0 => 0
  | n + 1 => ct a n + (if a n = 0 then 0 else 1)
def pb (b : Nat → Bool) (v : Nat) : Nat → Nat
  | 0 => 0
  | n + 1 => pb b v n + (if v ≤ n ∧ b n = true then 1 else 0)
theorem mx_cg {st : Nat → Nat → Nat} {a a' : Nat → Nat} (n : Nat) (h : ∀ q, q < n → a q = a' q) : mx st a n = mx st a' n := by
  induction n with
  | zero => rfl
  | succ n ih =>
    show max (mx st a n) (st n (a n)) = max (mx st a' n) (st n (a' n))
    rw [ih (fun q hq => h q (by omega)), h n (by omega)]
theorem ct_cg {a a' : Nat → Nat} (n : Nat) (h : ∀ q, q < n → a q = a' q) : ct a n = ct a' n := by
  induction n with
  | zero => rfl
  | succ n ih =>
    show ct a n + _ = ct a' n + _
    rw [ih (fun q hq => h q (by omega)), h n (by omega)]
theorem mx_ge {st : Nat → Nat → Nat} {a : Nat → Nat} {n u : Nat} (h : u < n) : st u (a u) ≤ mx st a n := by
  induction n with
  | zero => omega
  | succ n ih =>
    show _ ≤ max (mx st a n) (st n (a n))
    by_cases z : u = n
    · rw [z]; omega
    · have := ih (by omega); omega
theorem pb_v1 {b : Nat → Bool} {v : Nat} (n : Nat) (hv : v < n) : pb b v n = pb b (v + 1) n + (if b v = true then 1 else 0) := by
  induction n with
  | zero => omega
  | succ n ih =>
    show pb b v n + (if v ≤ n ∧ b n = true then 1 else 0) = pb b (v + 1) n + (if v + 1 ≤ n ∧ b n = true then 1 else 0) + _
    by_cases z : v = n
    · subst z
      have e : ∀ m, m ≤ v → pb b v m = 0 ∧ pb b (v + 1) m = 0 := by
        intro m
        induction m with
        | zero => intro _; exact ⟨rfl, rfl⟩
        | succ m ihm =>
          intro hm
          have := ihm (by omega)
          constructor
          · show pb b v m + (if v ≤ m ∧ b m = true then 1 else 0) = 0
            rw [this.1, if_neg (by omega)]
          · show pb b (v + 1) m + (if v + 1 ≤ m ∧ b m = true then 1 else 0) = 0
            rw [this.2, if_neg (by omega)]
      have e1 := e v (Nat.le_refl _)
      rw [e1.1, e1.2, if_neg (show ¬ (v + 1 ≤ v ∧ b v = true) by omega)]
      by_cases y : b v = true
      · rw [if_pos ⟨Nat.le_refl _, y⟩, if_pos y]
      · rw [if_neg (fun q => y q.2), if_neg y]
    · rw [ih (by omega)]
      by_cases y : b n = true
      · rw [if_pos (show v ≤ n ∧ b n = true from ⟨by omega, y⟩), if_pos (show v + 1 ≤ n ∧ b n = true from ⟨by omega, y⟩)]
        omega
      · rw [if_neg (show ¬ (v ≤ n ∧ b n = true) from fun q => y q.2), if_neg (show ¬ (v + 1 ≤ n ∧ b n = true) from fun q => y q.2)]
        omega
theorem pb_add {b : Nat → Bool} {v o : Nat} (n : Nat) (hv : v ≤ o) (ho : o < n) (hb : b o = false) : pb (bU b o) v n = pb b v n + 1 := by
  induction n with
  | zero => omega
  | succ n ih =>
    show pb (bU b o) v n + (if v ≤ n ∧ bU b o n = true then 1 else 0) = pb b v n + (if v ≤ n ∧ b n = true then 1 else 0) + 1
    by_cases z : o = n
    · subst z
      have e : ∀ m, m ≤ o → pb (bU b o) v m = pb b v m := by
        intro m
        induction m with
        | zero => intro _; rfl
        | succ m ihm =>
          intro hm
          show pb (bU b o) v m + (if v ≤ m ∧ bU b o m = true then 1 else 0) = pb b v m + (if v ≤ m ∧ b m = true then 1 else 0)
          have eb : bU b o m = b m := by
            unfold bU
            rw [decide_eq_false (by omega), Bool.or_false]
          rw [ihm (by omega), eb]
      have eo : bU b o o = true := by unfold bU; simp
      rw [e o (Nat.le_refl _), if_pos ⟨hv, eo⟩, if_neg (by rw [hb]; simp)]
    · have eb : bU b o n = b n := by
        unfold bU
        rw [decide_eq_false (by omega), Bool.or_false]
      rw [ih (by omega), eb]
      omega
def EM (P : Nat) (st : Nat → Nat → Nat) : Nat → Nat → (Nat → Nat) → Pg → Pg
  | 0, _, a, c => if okA a P = true then lf (mx st a P) (ct a P) a c else c
  | k + 1, v, a, c => fd (fun w c => EM P st k (v + 1) (upN a v w) c) (P + 1) 0 c
theorem EM_cut (P : Nat) (st : Nat → Nat → Nat) (k : Nat) : ∀ v a (c : Pg), (∀ a', (∀ q, q < v → a' q = a q) → ¬ okA a' P = true) → EM P st k v a c = c := by
  induction k with
  | zero =>
    intro v a c h
    show (if okA a P = true then lf (mx st a P) (ct a P) a c else c) = c
    rw [if_neg (h a (fun _ _ => rfl))]
  | succ k ih =>
    intro v a c h
    refine fd_id (fun _ : Pg => True) (fun w d _ => ih (v + 1) (upN a v w) d (fun a' ha' => h a' (fun q hq => ?_))) _ _ c trivial
    rw [ha' q (by omega), upN_n (by omega)]
theorem fd_add {α : Type} (g : Nat → α → α) (m n : Nat) : ∀ p c, fd g (m + n) p c = fd g n (p + m) (fd g m p c) := by
  induction m with
  | zero => intro p c; rw [Nat.zero_add]; rfl
  | succ m ih =>
    intro p c
    rw [show m + 1 + n = (m + n) + 1 by omega]
    show fd g (m + n) (p + 1) (g p c) = fd g n (p + (m + 1)) (fd g m (p + 1) (g p c))
    rw [ih (p + 1) (g p c), show p + 1 + m = p + (m + 1) by omega]
theorem fd_idr {α : Type} {g : Nat → α → α} : ∀ m p c, (∀ w c, p ≤ w → w < p + m → g w c = c) → fd g m p c = c := by
  intro m
  induction m with
  | zero => intro p c _; rfl
  | succ m ih =>
    intro p c h
    show fd g m (p + 1) (g p c) = c
    rw [h p c (Nat.le_refl _) (by omega)]
    exact ih (p + 1) c (fun w d h1 h2 => h w d (by omega) (by omega))
theorem fd_eqr {α : Type} {g1 g2 : Nat → α → α} : ∀ m p c, (∀ w c, p ≤ w → w < p + m → g1 (w + 1) c = g2 w c) → fd g1 m (p + 1) c = fd g2 m p c := by
  intro m
  induction m with
  | zero => intro p c _; rfl
  | succ m ih =>
    intro p c h
    show fd g1 m (p + 1 + 1) (g1 (p + 1) c) = fd g2 m (p + 1) (g2 p c)
    rw [h p c (Nat.le_refl _) (by omega)]
    exact ih (p + 1) (g2 p c) (fun w d h1 h2 => h w d (by omega) (by omega))
def IV (P : Nat) (st : Nat → Nat → Nat) (v : Nat) (aE aP : Nat → Nat) (b : Nat → Bool) (mo pc : Nat) : Prop :=
  (∀ q, q < v ∨ P ≤ q → aE q = aP q) ∧
  (∀ q, q < P → v ≤ q → (b q = true → ∃ u, u < v ∧ aP q = u + 1 ∧ aE u = q + 1) ∧ (b q = false → ∀ u, u < v → aE u ≠ q + 1)) ∧
  (∀ u, u < v → aE u = 0 ∨ ∃ q, aE u = q + 1 ∧ q < P ∧ q ≠ u ∧ ((q < v ∧ aE q = u + 1) ∨ (v ≤ q ∧ b q = true ∧ aP q = u + 1))) ∧
  mo = mx st aE v ∧ ct aE v + pb b v P = pc
theorem EM_PE (P : Nat) (st : Nat → Nat → Nat) (hsym : ∀ u q, u < P → q < P → u ≠ q → st u (q + 1) = st q (u + 1)) (k : Nat) : ∀ v aE aP b mo pc (c : Pg), v + k = P → IV P st v aE aP b mo pc → EM P st k v aE c = PE P st k v aP b mo pc c := by
  induction k with
  | zero =>
    intro v aE aP b mo pc c hv hI
    obtain rfl : v = P := by omega
    obtain ⟨I1, I2, I3, I4, I5⟩ := hI
    have ea' : aE = aP := by
      funext q
      exact I1 q (by omega)
    have ok : okA aE v = true := okA_mk (fun u hu => by
      rcases I3 u hu with h | ⟨q, h1, h2, h3, h4⟩
      · exact Or.inl h
      · rcases h4 with h4 | h4
        · refine Or.inr ⟨by omega, ?_⟩
          rw [h1, show q + 1 - 1 = q by omega]
          exact h4.2
        · omega)
    have p0 : ∀ m, m ≤ v → pb b v m = 0 := by
      intro m
      induction m with
      | zero => intro _; rfl
      | succ m ihm =>
        intro hm
        show pb b v m + (if v ≤ m ∧ b m = true then 1 else 0) = 0
        rw [ihm (by omega), if_neg (by omega)]
    rw [p0 v (Nat.le_refl _)] at I5
    show (if okA aE v = true then lf (mx st aE v) (ct aE v) aE c else c) = lf mo pc aP c
    rw [if_pos ok, ← I4, show ct aE v = pc by omega, ea']
  | succ k ih =>
    intro v aE aP b mo pc c hv hI
    obtain ⟨I1, I2, I3, I4, I5⟩ := hI
    have I2v := I2 v (by omega) (Nat.le_refl _)
    have pv := pb_v1 (b := b) (v := v) P (by omega)
    have mv : ∀ w, mx st (upN aE v w) (v + 1) = max mo (st v w) := by
      intro w
      show max (mx st (upN aE v w) v) (st v (upN aE v w v)) = _
      rw [upN_s, mx_cg v (a' := aE) (fun q hq => upN_n (by omega)), I4]
    have cv : ∀ w, ct (upN aE v w) (v + 1) = ct aE v + (if w = 0 then 0 else 1) := by
      intro w
      show ct (upN aE v w) v + (if upN aE v w v = 0 then 0 else 1) = _
      rw [upN_s, ct_cg v (a' := aE) (fun q hq => upN_n (by omega))]
    show fd (fun w c => EM P st k (v + 1) (upN aE v w) c) (P + 1) 0 c = (if b v = true then PE P st k (v + 1) aP b mo pc c else fd (fun o c => if b o = true then c else PE P st k (v + 1) (upN (upN aP v (o + 1)) o (v + 1)) (bU b o) (max mo (st v (o + 1))) (pc + 2) c) (P - (v + 1)) (v + 1) (PE P st k (v + 1) (upN aP v 0) b (max mo (st v 0)) pc c))
    by_cases z : b v = true
    · obtain ⟨u, u1, u2, u3⟩ := I2v.1 z
      rw [if_pos z] at pv
      rw [if_pos z]
      have bad : ∀ w (d : Pg), w ≠ u + 1 → EM P st k (v + 1) (upN aE v w) d = d := by
        intro w d hw
        refine EM_cut P st k (v + 1) (upN aE v w) d (fun a' ha' hok => ?_)
        have e1 : a' v = w := by rw [ha' v (by omega), upN_s]
        have e2 : a' u = v + 1 := by rw [ha' u (by omega), upN_n (by omega), u3]
        rcases okA_get hok u (by omega) with h | h
        · omega
        · rw [e2, show v + 1 - 1 = v by omega, e1] at h
          exact hw h.2
      have sp : P + 1 = (u + 1) + (1 + (P - u - 1)) := by omega
      rw [sp, fd_add, fd_add]
      rw [fd_idr (u + 1) 0 c (fun w d h1 h2 => bad w d (by omega))]
      show fd _ (P - u - 1) (0 + (u + 1) + 1) (EM P st k (v + 1) (upN aE v (0 + (u + 1))) c) = _
      rw [fd_idr (P - u - 1) _ _ (fun w d h1 h2 => bad w d (by omega)), Nat.zero_add]
      refine ih (v + 1) (upN aE v (u + 1)) aP b mo pc c (by omega) ⟨fun q hq => ?_, fun q q1 q2 => ⟨fun hb => ?_, fun hb w hw => ?_⟩, fun w hw => ?_, ?_, ?_⟩
      · by_cases y : q = v
        · rw [y, upN_s, u2]
        · rw [upN_n y]
          exact I1 q (by omega)
      · obtain ⟨w, w1, w2, w3⟩ := (I2 q q1 (by omega)).1 hb
        exact ⟨w, by omega, w2, by rw [upN_n (by omega)]; exact w3⟩
      · by_cases y : w = v
        · rw [y, upN_s]; omega
        · rw [upN_n y]
          exact (I2 q q1 (by omega)).2 hb w (by omega)
      · by_cases y : w = v
        · refine Or.inr ⟨u, by rw [y, upN_s], by omega, by omega, Or.inl ⟨by omega, ?_⟩⟩
          rw [upN_n (by omega), u3, y]
        · rw [upN_n y]
          rcases I3 w (by omega) with h | ⟨q, h1, h2, h3, h4⟩
          · exact Or.inl h
          · refine Or.inr ⟨q, h1, h2, h3, ?_⟩
            rcases h4 with ⟨h4, h5⟩ | ⟨h4, h5, h6⟩
            · exact Or.inl ⟨by omega, by rw [upN_n (by omega)]; exact h5⟩
            · by_cases x : q = v
              · refine Or.inl ⟨by omega, ?_⟩
                rw [x, upN_s]
                rw [x, u2] at h6
                exact h6
              · exact Or.inr ⟨by omega, h5, h6⟩
      · rw [mv]
        have s1 := hsym u v (by omega) (by omega) (by omega)
        have s2 := mx_ge (st := st) (a := aE) u1
        rw [u3, s1, ← I4] at s2
        omega
      · rw [cv, if_neg (by omega)]
        omega
    · have zf : b v = false := by
        cases h : b v
        · rfl
        · exact absurd h z
      rw [if_neg z] at pv
      rw [if_neg z]
      have sp : P + 1 = 1 + ((v + 1) + (P - (v + 1))) := by omega
      rw [sp, fd_add, fd_add]
      show fd _ (P - (v + 1)) (0 + 1 + (v + 1)) (fd _ (v + 1) (0 + 1) (EM P st k (v + 1) (upN aE v 0) c)) = _
      have first : EM P st k (v + 1) (upN aE v 0) c = PE P st k (v + 1) (upN aP v 0) b (max mo (st v 0)) pc c := by
        refine ih (v + 1) (upN aE v 0) (upN aP v 0) b _ pc c (by omega) ⟨fun q hq => ?_, fun q q1 q2 => ⟨fun hb => ?_, fun hb w hw => ?_⟩, fun w hw => ?_, ?_, ?_⟩
        · by_cases y : q = v
          · rw [y, upN_s, upN_s]
          · rw [upN_n y, upN_n y]
            exact I1 q (by omega)
        · obtain ⟨w, w1, w2, w3⟩ := (I2 q q1 (by omega)).1 hb
          exact ⟨w, by omega, by rw [upN_n (by omega)]; exact w2, by rw [upN_n (by omega)]; exact w3⟩
        · by_cases y : w = v
          · rw [y, upN_s]; omega
          · rw [upN_n y]
            exact (I2 q q1 (by omega)).2 hb w (by omega)
        · by_cases y : w = v
          · exact Or.inl (by rw [y, upN_s])
          · rw [upN_n y]
            rcases I3 w (by omega) with h | ⟨q, h1, h2, h3, h4⟩
            · exact Or.inl h
            · refine Or.inr ⟨q, h1, h2, h3, ?_⟩
              rcases h4 with ⟨h4, h5⟩ | ⟨h4, h5, h6⟩
              · exact Or.inl ⟨by omega, by rw [upN_n (by omega)]; exact h5⟩
              · by_cases x : q = v
                · rw [x] at h5
                  exact absurd h5 z
                · exact Or.inr ⟨by omega, h5, by rw [upN_n x]; exact h6⟩
        · rw [mv]
        · rw [cv, if_pos rfl]
          omega
      rw [first]
      generalize PE P st k (v + 1) (upN aP v 0) b (max mo (st v 0)) pc c = c1
      rw [fd_idr (v + 1) (0 + 1) c1 (fun w d h1 h2 => EM_cut P st k (v + 1) (upN aE v w) d (fun a' ha' hok => by
        have e1 : a' v = w := by rw [ha' v (by omega), upN_s]
        rcases okA_get hok v (by omega) with h | h
        · omega
        · rw [e1] at h
          have e2 : a' (w - 1) = aE (w - 1) := by rw [ha' (w - 1) (by omega), upN_n (by omega)]
          rw [e2] at h
          exact I2v.2 zf (w - 1) (by omega) h.2))]
      rw [show 0 + 1 + (v + 1) = (v + 1) + 1 by omega]
      refine fd_eqr (P - (v + 1)) (v + 1) c1 (fun o d h1 h2 => ?_)
      show EM P st k (v + 1) (upN aE v (o + 1)) d = (if b o = true then d else PE P st k (v + 1) (upN (upN aP v (o + 1)) o (v + 1)) (bU b o) (max mo (st v (o + 1))) (pc + 2) d)
      by_cases y : b o = true
      · rw [if_pos y]
        obtain ⟨u, w1, w2, w3⟩ := (I2 o (by omega) (by omega)).1 y
        refine EM_cut P st k (v + 1) (upN aE v (o + 1)) d (fun a' ha' hok => ?_)
        have e1 : a' v = o + 1 := by rw [ha' v (by omega), upN_s]
        have e2 : a' u = o + 1 := by rw [ha' u (by omega), upN_n (by omega), w3]
        rcases okA_get hok v (by omega) with h | h
        · omega
        · rcases okA_get hok u (by omega) with g | g
          · omega
          · rw [e1, show o + 1 - 1 = o by omega] at h
            rw [e2, show o + 1 - 1 = o by omega] at g
            omega
      · have yf : b o = false := by
          cases h : b o
          · rfl
          · exact absurd h y
        rw [if_neg y]
        have bo : bU b o o = true := by unfold bU; simp
        have bn : ∀ q, q ≠ o → bU b o q = b q := fun q hq => by unfold bU; rw [decide_eq_false hq, Bool.or_false]
        refine ih (v + 1) (upN aE v (o + 1)) (upN (upN aP v (o + 1)) o (v + 1)) (bU b o) _ (pc + 2) d (by omega) ⟨fun q hq => ?_, fun q q1 q2 => ⟨fun hb => ?_, fun hb w hw => ?_⟩, fun w hw => ?_, ?_, ?_⟩
        · by_cases x : q = v
          · rw [x, upN_s, upN_n (by omega), upN_s]
          · rw [upN_n x, upN_n (by omega), upN_n x]
            exact I1 q (by omega)
        · by_cases x : q = o
          · exact ⟨v, by omega, by rw [x, upN_s], by rw [upN_s, x]⟩
          · rw [bn q x] at hb
            obtain ⟨w, w1, w2, w3⟩ := (I2 q q1 (by omega)).1 hb
            exact ⟨w, by omega, by rw [upN_n x, upN_n (by omega)]; exact w2, by rw [upN_n (by omega)]; exact w3⟩
        · have x : q ≠ o := fun x => by rw [x, bo] at hb; exact absurd hb (by decide)
          rw [bn q x] at hb
          by_cases y2 : w = v
          · rw [y2, upN_s]; omega
          · rw [upN_n y2]
            exact (I2 q q1 (by omega)).2 hb w (by omega)
        · by_cases y2 : w = v
          · exact Or.inr ⟨o, by rw [y2, upN_s], by omega, by omega, Or.inr ⟨by omega, bo, by rw [upN_s, y2]⟩⟩
          · rw [upN_n y2]
            rcases I3 w (by omega) with h | ⟨q, g1, g2, g3, g4⟩
            · exact Or.inl h
            · refine Or.inr ⟨q, g1, g2, g3, ?_⟩
              rcases g4 with ⟨g4, g5⟩ | ⟨g4, g5, g6⟩
              · exact Or.inl ⟨by omega, by rw [upN_n (by omega)]; exact g5⟩
              · by_cases x : q = v
                · rw [x] at g5
                  exact absurd g5 z
                · have x2 : q ≠ o := fun x2 => by rw [x2] at g5; exact y g5
                  exact Or.inr ⟨by omega, by rw [bn q x2]; exact g5, by rw [upN_n x2, upN_n x]; exact g6⟩
        · rw [mv]
        · rw [cv, if_neg (by omega), pb_add P (by omega) (by omega) yf]
          omega
theorem PE_le (P : Nat) (st : Nat → Nat → Nat) (k : Nat) : ∀ v a b mo pc (c : Pg), (PE P st k v a b mo pc c).1 ≤ c.1 := by
  induction k with
  | zero =>
    intro v a b mo pc c
    show (lf mo pc a c).1 ≤ c.1
    unfold lf
    by_cases z : bt mo pc c
    · rw [if_pos (btb_t.mpr z)]
      show mo ≤ c.1
      unfold bt at z
      omega
    · rw [if_neg (by rw [btb_f.mpr z]; decide)]
      exact Nat.le_refl _
  | succ k ih =>
    intro v a b mo pc c
    show (if b v = true then PE P st k (v + 1) a b mo pc c else fd (fun o c => if b o = true then c else PE P st k (v + 1) (upN (upN a v (o + 1)) o (v + 1)) (bU b o) (max mo (st v (o + 1))) (pc + 2) c) (P - (v + 1)) (v + 1) (PE P st k (v + 1) (upN a v 0) b (max mo (st v 0)) pc c)).1 ≤ c.1
    by_cases z : b v = true
    · rw [if_pos z]
      exact ih _ _ _ _ _ _
    · rw [if_neg z]
      refine fd_inv (fun d : Pg => d.1 ≤ c.1) (fun o d hd => ?_) _ _ _ (ih _ _ _ _ _ _)
      show (if b o = true then d else PE P st k (v + 1) (upN (upN a v (o + 1)) o (v + 1)) (bU b o) (max mo (st v (o + 1))) (pc + 2) d).1 ≤ c.1
      by_cases y : b o = true
      · rw [if_pos y]; exact hd
      · rw [if_neg y]; exact Nat.le_trans (ih _ _ _ _ _ _) hd
theorem PE_bd (P : Nat) (st : Nat → Nat → Nat) (hst : ∀ u w, st u w ≤ 108) (k : Nat) : ∀ v a b mo pc (c : Pg), mo ≤ 108 → (PE P st k v a b mo pc c).1 ≤ 108 := by
  induction k with
  | zero =>
    intro v a b mo pc c hm
    show (lf mo pc a c).1 ≤ 108
    unfold lf
    by_cases z : bt mo pc c
    · rw [if_pos (btb_t.mpr z)]
      exact hm
    · rw [if_neg (by rw [btb_f.mpr z]; decide)]
      unfold bt at z
      omega
  | succ k ih =>
    intro v a b mo pc c hm
    show (if b v = true then PE P st k (v + 1) a b mo pc c else fd (fun o c => if b o = true then c else PE P st k (v + 1) (upN (upN a v (o + 1)) o (v + 1)) (bU b o) (max mo (st v (o + 1))) (pc + 2) c) (P - (v + 1)) (v + 1) (PE P st k (v + 1) (upN a v 0) b (max mo (st v 0)) pc c)).1 ≤ 108
    by_cases z : b v = true
    · rw [if_pos z]
      exact ih _ _ _ _ _ _ hm
    · rw [if_neg z]
      have := hst v 0
      refine fd_inv (fun d : Pg => d.1 ≤ 108) (fun o d hd => ?_) _ _ _ (ih _ _ _ _ _ _ (by omega))
      show (if b o = true then d else PE P st k (v + 1) (upN (upN a v (o + 1)) o (v + 1)) (bU b o) (max mo (st v (o + 1))) (pc + 2) d).1 ≤ 108
      by_cases y : b o = true
      · rw [if_pos y]; exact hd
      · rw [if_neg y]; exact Nat.le_trans (PE_le _ _ _ _ _ _ _ _ _) hd
def MB (x : Int32) (b : Nat → Bool) : Prop := ∃ m, m < 32 ∧ x = nI m ∧ ∀ q, q < 5 → tS x q = b q
theorem MB_dec : ∀ m : Fin 32, ∀ o : Fin 5, (m.1 ||| 2 ^ o.1 < 32) ∧ aX (nI m.1) o.1 = nI (m.1 ||| 2 ^ o.1) ∧ ∀ q : Fin 5, tS (nI (m.1 ||| 2 ^ o.1)) q.1 = (tS (nI m.1) q.1 || decide (q.1 = o.1)) := by decide +kernel
theorem MB_add {x : Int32} {b : Nat → Bool} (h : MB x b) {o : Nat} (ho : o < 5) : MB (aX x o) (bU b o) := by
  obtain ⟨m, hm, rfl, hb⟩ := h
  obtain ⟨d1, d2, d3⟩ := MB_dec ⟨m, hm⟩ ⟨o, ho⟩
  refine ⟨m ||| 2 ^ o, d1, d2, fun q hq => ?_⟩
  rw [d2, d3 ⟨q, hq⟩]
  unfold bU
  rw [← hb q hq]
theorem MB_0 : MB 0 (fun _ => false) := by
  refine ⟨0, by decide, rfl, fun q hq => ?_⟩
  have g : ∀ q : Fin 5, tS 0 q.1 = false := by decide +kernel
  exact g ⟨q, hq⟩
