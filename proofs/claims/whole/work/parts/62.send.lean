/-! ===== send: the search that cuts off, and the one that tries all ===== -/
def fd {α : Type} (g : Nat → α → α) : Nat → Nat → α → α
  | 0, _, c => c
  | m + 1, p, c => fd g m (p + 1) (g p c)
def aX (x : Int32) (p : Nat) : Int32 := x ||| ((1 : Int32) <<< (nI p &&& 31))
abbrev Sg : Type := Nat × (Nat → Nat)
def DF (P : Nat) (co : Nat → Nat → Nat) : Nat → Nat → (Nat → Nat) → Int32 → Nat → Sg → Sg
  | 0, _, a, _, sum, c => if sum < c.1 then (sum, a) else c
  | k + 1, r, a, x, sum, c => if sum < c.1 then fd (fun p c => if tS x p = true then c else DF P co k (r + 1) (upN a r p) (aX x p) (sum + co p r) c) P 0 c else c
def E1 (P : Nat) (co : Nat → Nat → Nat) : Nat → Nat → (Nat → Nat) → Int32 → Nat → Sg → Sg
  | 0, _, a, _, sum, c => if sum < c.1 then (sum, a) else c
  | k + 1, r, a, x, sum, c => fd (fun p c => if co p r = 1000000 ∨ tS x p = true then c else E1 P co k (r + 1) (upN a r p) (aX x p) (sum + co p r) c) P 0 c
def vl (co : Nat → Nat → Nat) : Nat → Nat → (Nat → Nat) → Int32 → Nat → Nat
  | 0, _, _, _, sum => sum
  | k + 1, r, a, x, sum => if co (a r) r = 1000000 then 1000000 else if tS x (a r) = true then 1000000 else vl co k (r + 1) a (aX x (a r)) (sum + co (a r) r)
def EN (P : Nat) (V : (Nat → Nat) → Nat) : Nat → Nat → (Nat → Nat) → Sg → Sg
  | 0, _, a, c => if V a < c.1 then (V a, a) else c
  | k + 1, r, a, c => fd (fun p c => EN P V k (r + 1) (upN a r p) c) P 0 c
theorem fd_id {α : Type} {g : Nat → α → α} (I : α → Prop) (h : ∀ p c, I c → g p c = c) : ∀ m p c, I c → fd g m p c = c := by
  intro m
  induction m with
  | zero => intro p c _; rfl
  | succ m ih =>
    intro p c hc
    show fd g m (p + 1) (g p c) = c
    rw [h p c hc]
    exact ih (p + 1) c hc
theorem fd_inv {α : Type} {g : Nat → α → α} (I : α → Prop) (h : ∀ p c, I c → I (g p c)) : ∀ m p c, I c → I (fd g m p c) := by
  intro m
  induction m with
  | zero => intro p c hc; exact hc
  | succ m ih => intro p c hc; exact ih (p + 1) (g p c) (h p c hc)
theorem fd_eq {α : Type} {g1 g2 : Nat → α → α} (I : α → Prop) (h : ∀ p c, I c → g1 p c = g2 p c) (hI : ∀ p c, I c → I (g1 p c)) : ∀ m p c, I c → fd g1 m p c = fd g2 m p c := by
  intro m
  induction m with
  | zero => intro p c _; rfl
  | succ m ih =>
    intro p c hc
    show fd g1 m (p + 1) (g1 p c) = fd g2 m (p + 1) (g2 p c)
    rw [← h p c hc]
    exact ih (p + 1) (g1 p c) (hI p c hc)
theorem E1_le (P : Nat) (co : Nat → Nat → Nat) (k : Nat) : ∀ r a x sum (c : Sg), (E1 P co k r a x sum c).1 ≤ c.1 := by
  induction k with
  | zero =>
    intro r a x sum c
    show (if sum < c.1 then ((sum, a) : Sg) else c).1 ≤ c.1
    by_cases z : sum < c.1
    · rw [if_pos z]; exact Nat.le_of_lt z
    · rw [if_neg z]; exact Nat.le_refl _
  | succ k ih =>
    intro r a x sum c
    refine fd_inv (fun d : Sg => d.1 ≤ c.1) (fun p d hd => ?_) P 0 c (Nat.le_refl _)
    show (if co p r = 1000000 ∨ tS x p = true then d else E1 P co k (r + 1) (upN a r p) (aX x p) (sum + co p r) d).1 ≤ c.1
    by_cases z : co p r = 1000000 ∨ tS x p = true
    · rw [if_pos z]; exact hd
    · rw [if_neg z]; exact Nat.le_trans (ih _ _ _ _ _) hd
theorem E1_cut (P : Nat) (co : Nat → Nat → Nat) (k : Nat) : ∀ r a x sum (c : Sg), c.1 ≤ sum → E1 P co k r a x sum c = c := by
  induction k with
  | zero =>
    intro r a x sum c h
    show (if sum < c.1 then ((sum, a) : Sg) else c) = c
    rw [if_neg (by omega)]
  | succ k ih =>
    intro r a x sum c h
    refine fd_id (fun d : Sg => d.1 ≤ sum) (fun p d hd => ?_) P 0 c h
    show (if co p r = 1000000 ∨ tS x p = true then d else E1 P co k (r + 1) (upN a r p) (aX x p) (sum + co p r) d) = d
    by_cases z : co p r = 1000000 ∨ tS x p = true
    · rw [if_pos z]
    · rw [if_neg z]; exact ih _ _ _ _ _ (by omega)
theorem DF_E1 (P : Nat) (co : Nat → Nat → Nat) (k : Nat) : ∀ r a x sum (c : Sg), c.1 ≤ 1000000 → DF P co k r a x sum c = E1 P co k r a x sum c := by
  induction k with
  | zero => intro r a x sum c _; rfl
  | succ k ih =>
    intro r a x sum c hc
    show (if sum < c.1 then fd (fun p c => if tS x p = true then c else DF P co k (r + 1) (upN a r p) (aX x p) (sum + co p r) c) P 0 c else c) = _
    by_cases z : sum < c.1
    · rw [if_pos z]
      symm
      refine fd_eq (fun d : Sg => d.1 ≤ 1000000) (fun p d hd => ?_) (fun p d hd => ?_) P 0 c hc
      · show (if co p r = 1000000 ∨ tS x p = true then d else E1 P co k (r + 1) (upN a r p) (aX x p) (sum + co p r) d) = (if tS x p = true then d else DF P co k (r + 1) (upN a r p) (aX x p) (sum + co p r) d)
        by_cases y : tS x p = true
        · rw [if_pos y, if_pos (Or.inr y)]
        · rw [if_neg y, ih _ _ _ _ d hd]
          by_cases w : co p r = 1000000
          · rw [if_pos (Or.inl w)]
            exact (E1_cut P co k _ _ _ _ d (by omega)).symm
          · rw [if_neg (fun q => q.elim w y)]
      · show (if co p r = 1000000 ∨ tS x p = true then d else E1 P co k (r + 1) (upN a r p) (aX x p) (sum + co p r) d).1 ≤ 1000000
        by_cases w : co p r = 1000000 ∨ tS x p = true
        · rw [if_pos w]; exact hd
        · rw [if_neg w]; exact Nat.le_trans (E1_le _ _ _ _ _ _ _ _) hd
    · rw [if_neg z]
      exact (E1_cut P co (k + 1) r a x sum c (by omega)).symm
theorem EN_cut (P : Nat) (V : (Nat → Nat) → Nat) (k : Nat) : ∀ r a (c : Sg), c.1 ≤ 1000000 → (∀ a', (∀ q, q < r → a' q = a q) → V a' = 1000000) → EN P V k r a c = c := by
  induction k with
  | zero =>
    intro r a c hc h
    show (if V a < c.1 then ((V a, a) : Sg) else c) = c
    rw [h a (fun _ _ => rfl), if_neg (by omega)]
  | succ k ih =>
    intro r a c hc h
    refine fd_id (fun d : Sg => d.1 ≤ 1000000) (fun p d hd => ih (r + 1) (upN a r p) d hd (fun a' ha' => h a' (fun q hq => ?_))) P 0 c hc
    rw [ha' q (by omega), upN_n (by omega)]
theorem EN_E1 (P : Nat) (co : Nat → Nat → Nat) (V : (Nat → Nat) → Nat) (k : Nat) : ∀ r a x sum (c : Sg), c.1 ≤ 1000000 → (∀ a', (∀ q, q < r → a' q = a q) → V a' = vl co k r a' x sum) → EN P V k r a c = E1 P co k r a x sum c := by
  induction k with
  | zero =>
    intro r a x sum c hc h
    show (if V a < c.1 then ((V a, a) : Sg) else c) = (if sum < c.1 then ((sum, a) : Sg) else c)
    rw [h a (fun _ _ => rfl)]
    rfl
  | succ k ih =>
    intro r a x sum c hc h
    symm
    refine fd_eq (fun d : Sg => d.1 ≤ 1000000) (fun p d hd => ?_) (fun p d hd => ?_) P 0 c hc
    · show (if co p r = 1000000 ∨ tS x p = true then d else E1 P co k (r + 1) (upN a r p) (aX x p) (sum + co p r) d) = EN P V k (r + 1) (upN a r p) d
      have hp : ∀ a' : Nat → Nat, (∀ q, q < r + 1 → a' q = upN a r p q) → a' r = p ∧ V a' = (if co p r = 1000000 then 1000000 else if tS x p = true then 1000000 else vl co k (r + 1) a' (aX x p) (sum + co p r)) := by
        intro a' ha'
        have e1 : a' r = p := by rw [ha' r (by omega), upN_s]
        refine ⟨e1, ?_⟩
        rw [h a' (fun q hq => by rw [ha' q (by omega), upN_n (by omega)])]
        show (if co (a' r) r = 1000000 then 1000000 else if tS x (a' r) = true then 1000000 else vl co k (r + 1) a' (aX x (a' r)) (sum + co (a' r) r)) = _
        rw [e1]
      by_cases y : co p r = 1000000 ∨ tS x p = true
      · rw [if_pos y]
        refine (EN_cut P V k (r + 1) (upN a r p) d hd (fun a' ha' => ?_)).symm
        rw [(hp a' ha').2]
        by_cases w : co p r = 1000000
        · rw [if_pos w]
        · rw [if_neg w, if_pos (y.resolve_left w)]
      · rw [if_neg y]
        refine (ih (r + 1) (upN a r p) (aX x p) (sum + co p r) d hd (fun a' ha' => ?_)).symm
        rw [(hp a' ha').2, if_neg (fun q => y (Or.inl q)), if_neg (fun q => y (Or.inr q))]
    · show (if co p r = 1000000 ∨ tS x p = true then d else E1 P co k (r + 1) (upN a r p) (aX x p) (sum + co p r) d).1 ≤ 1000000
      by_cases w : co p r = 1000000 ∨ tS x p = true
      · rw [if_pos w]; exact hd
      · rw [if_neg w]; exact Nat.le_trans (E1_le _ _ _ _ _ _ _ _) hd
theorem vl_or (co : Nat → Nat → Nat) (hco : ∀ p r, co p r ≤ 432 ∨ co p r = 1000000) (k : Nat) : ∀ r a x sum, vl co k r a x sum = 1000000 ∨ vl co k r a x sum ≤ sum + 432 * k := by
  induction k with
  | zero => intro r a x sum; exact Or.inr (Nat.le_refl _)
  | succ k ih =>
    intro r a x sum
    show (if co (a r) r = 1000000 then 1000000 else if tS x (a r) = true then 1000000 else vl co k (r + 1) a (aX x (a r)) (sum + co (a r) r)) = 1000000 ∨ (if co (a r) r = 1000000 then 1000000 else if tS x (a r) = true then 1000000 else vl co k (r + 1) a (aX x (a r)) (sum + co (a r) r)) ≤ _
    by_cases w : co (a r) r = 1000000
    · rw [if_pos w]; exact Or.inl rfl
    · rw [if_neg w]
      by_cases y : tS x (a r) = true
      · rw [if_pos y]; exact Or.inl rfl
      · rw [if_neg y]
        rcases ih (r + 1) a (aX x (a r)) (sum + co (a r) r) with h | h
        · exact Or.inl h
        · rcases hco (a r) r with c | c
          · right; omega
          · exact absurd c w
/-! the class's search over its cells -/
def oW (M M1 : Mm) : Prop := ∀ n, n < 60 → M1.1 n = M.1 n
theorem oW.hx {M M1 : Mm} {s : Nat → Nat} {f : Nat → Nat → Nat} (h : oW M M1) (hX : HX 3 M s f) : HX 3 M1 s f := hX.cg (fun n a b => h n (by omega))
theorem oW.tr {M M1 M2 : Mm} (h : oW M M1) (g : oW M1 M2) : oW M M2 := fun n hn => (g n hn).trans (h n hn)
def SX (s : Nat → Nat) (co : Nat → Nat → Nat) (r : Nat) (a : Nat → Nat) (c : Sg) (M : Mm) : Prop := (∀ p q, p < s 2 → q < s 0 → M.1 (64 + p) q = nI (co p q)) ∧ M.1 60 5 = nI c.1 ∧ c.1 ≤ 1000000 ∧ (c.1 < 1000000 → ∀ q, 1 ≤ q → q < s 0 → M.1 70 q = nI (c.2 q)) ∧ ∀ q, 1 ≤ q → q < r → M.1 69 q = nI (a q)
theorem sX_df {s : Nat → Nat} {f : Nat → Nat → Nat} {co : Nat → Nat → Nat} {T : Nat} (hV : Vt T s f) (hco : ∀ p r, co p r ≤ 432 ∨ co p r = 1000000) (k : Nat) : ∀ (fu r : Nat) (a : Nat → Nat) (x : Int32) (sum : Nat) (c : Sg) (M : Mm) (post : Mm → Prop), k < fu → r + k = s 0 → 1 ≤ r → sum ≤ 3000000 → HX 3 M s f → SX s co r a c M → (∀ M1 : Mm, oW M M1 → SX s co r a (DF (s 2) co k r a x sum c) M1 → post M1) → w_X9_assignFrom fu (nI r) x (nI sum) M post := by
  have hs := hV.1.2.2.1
  have hs0 := hV.1.1
  induction k with
  | zero =>
    intro fu r a x sum c M post hf hr h1 hsum hX hS hp
    obtain ⟨fu, rfl⟩ : ∃ n, fu = n + 1 := ⟨fu - 1, by omega⟩
    obtain ⟨S1, S2, S3, S4, S5⟩ := hS
    have e : DF (s 2) co 0 r a x sum c = if sum < c.1 then (sum, a) else c := rfl
    refine pk_lt sum c.1 (fun z => ?_) (fun z => ?_) rfl S2
    · rw [e, if_pos z] at hp
      refine pk_le (s 0) r (fun _ => ?_) (fun y => absurd y (by omega)) (H3_rooms hX)
      unfold w_X9_assignFrom_23
      intro M1 e1 M3 e3
      have z0 : (0 : Int32).toNatClampNeg = 0 := by decide
      have z5 : (5 : Int32).toNatClampNeg = 5 := by decide
      rw [z0, z5] at e3
      refine hp M3 (fun n hn => by rw [cpo e3 (by omega), cpo e1 (by omega)]) ⟨fun p q hp hq => ?_, ?_, by show sum ≤ 1000000; omega, fun _ q q1 q2 => ?_, fun q q1 q2 => ?_⟩
      · rw [cpo e3 (by omega), cpo e1 (by omega)]
        exact S1 p q hp hq
      · rw [cpo e3 (by decide), e1, wI_same, pk_us]
      · rw [e3, wI_same, pk_cpy_in (by omega) (by omega), cpo e1 (by decide), show 0 + (q - 0) = q by omega]
        exact S5 q q1 (by omega)
      · rw [cpo e3 (by decide), cpo e1 (by decide)]
        exact S5 q q1 q2
    · rw [e, if_neg (by omega)] at hp
      exact hp M (fun _ _ => rfl) ⟨S1, S2, S3, S4, S5⟩
  | succ k ih =>
    intro fu r a x sum c M post hf hr h1 hsum hX hS hp
    obtain ⟨fu, rfl⟩ : ∃ n, fu = n + 1 := ⟨fu - 1, by omega⟩
    have S2 := hS.2.1
    have S3 := hS.2.2.1
    have e : DF (s 2) co (k + 1) r a x sum c = if sum < c.1 then fd (fun p c => if tS x p = true then c else DF (s 2) co k (r + 1) (upN a r p) (aX x p) (sum + co p r) c) (s 2) 0 c else c := rfl
    refine pk_lt sum c.1 (fun z => ?_) (fun z => ?_) rfl S2
    · rw [e, if_pos z] at hp
      refine pk_le (s 0) r (fun y => absurd y (by omega)) (fun _ => pk_lt r 5 (fun _ => ⟨s 2 + 1, ?_⟩) (fun y => absurd y (by omega))) (H3_rooms hX)
      have lp : ∀ m p (d : Sg) (M1 : Mm), p + m = s 2 → oW M M1 → SX s co r a d M1 → (∀ M2 : Mm, oW M M2 → SX s co r a (fd (fun p c => if tS x p = true then c else DF (s 2) co k (r + 1) (upN a r p) (aX x p) (sum + co p r) c) m p d) M2 → post M2) → w_X9_assignFrom_47 (w_X9_assignFrom fu) post (m + 1) (nI r) x (nI sum) (nI p) M1 := by
        intro m
        induction m with
        | zero =>
          intro p d M1 hp1 o1 hS1 g
          exact pk_le (s 2) p (fun _ => g M1 o1 hS1) (fun y => absurd y (by omega)) (H3_people (o1.hx hX))
        | succ m ihm =>
          intro p d M1 hp1 o1 hS1 g
          have dd : tS x p = decide (¬ ((x >>> (nI p &&& 31)) &&& (1 : Int32)) = 0) := rfl
          have g2 : ∀ M2 : Mm, oW M M2 → SX s co r a (fd (fun p c => if tS x p = true then c else DF (s 2) co k (r + 1) (upN a r p) (aX x p) (sum + co p r) c) m (p + 1) (if tS x p = true then d else DF (s 2) co k (r + 1) (upN a r p) (aX x p) (sum + co p r) d)) M2 → post M2 := g
          refine pk_le (s 2) p (fun y => absurd y (by omega)) (fun _ => ⟨fun y => ?_, fun y => ?_⟩) (H3_people (o1.hx hX))
          · have d1 : tS x p = true := by rw [dd]; simp [y]
            rw [if_pos d1] at g2
            rw [nI_1]
            exact ihm (p + 1) d M1 (by omega) o1 hS1 g2
          · have d0 : ¬ tS x p = true := by rw [dd]; simp [y]
            rw [if_neg d0] at g2
            refine ⟨vp_i (by omega) (by decide), fun M8 e8 => ⟨vp_i (by omega) (by decide), ?_⟩⟩
            rw [cl_i (show r < 2 ^ 31 by omega)] at e8
            obtain ⟨T1, T2, T3, T4, T5⟩ := hS1
            rw [cl_i (show p < 2 ^ 31 by omega), cl_i (show r < 2 ^ 31 by omega), cpo e8 (show 64 + p ≠ 69 by omega), T1 p r (by omega) (by omega), nI_add, nI_1]
            have cp := hco p r
            have hS8 : SX s co (r + 1) (upN a r p) d M8 := by
              refine ⟨fun p' q hp' hq => by rw [cpo e8 (by omega)]; exact T1 p' q hp' hq, by rw [cpo e8 (by decide)]; exact T2, T3, fun w q q1 q2 => by rw [cpo e8 (by decide)]; exact T4 w q q1 q2, fun q q1 q2 => ?_⟩
              rw [e8, wI_same]
              by_cases w : q = r
              · rw [w, pk_us, upN_s]
              · rw [pk_un w, upN_n w]
                exact T5 q q1 (by omega)
            have o8 : oW M1 M8 := fun n hn => cpo e8 (by omega)
            refine ih fu (r + 1) (upN a r p) (aX x p) (sum + co p r) d M8 _ (by omega) (by omega) (by omega) (by omega) ((o1.tr o8).hx hX) hS8 (fun M12 o12 hS12 => ?_)
            obtain ⟨U1, U2, U3, U4, U5⟩ := hS12
            rw [nI_1]
            refine ihm (p + 1) _ M12 (by omega) ((o1.tr o8).tr o12) ⟨U1, U2, U3, U4, fun q q1 q2 => ?_⟩ g2
            rw [U5 q q1 (by omega), upN_n (by omega)]
      exact lp (s 2) 0 c M (by omega) (fun _ _ => rfl) hS hp
    · rw [e, if_neg (by omega)] at hp
      exact hp M (fun _ _ => rfl) hS
def coS (s : Nat → Nat) (f : Nat → Nat → Nat) (p r : Nat) : Nat := if p < s 2 ∧ r < s 0 then dL s f p (f 6 p) r else 1000000
theorem coS_or {T : Nat} {s : Nat → Nat} {f : Nat → Nat → Nat} (hV : Vt T s f) (p r : Nat) : coS s f p r ≤ 432 ∨ coS s f p r = 1000000 := by
  unfold coS
  by_cases z : p < s 2 ∧ r < s 0
  · rw [if_pos z]
    exact (dL_all hV z.1 (hV.2.2.2.1 p z.1).2.2.2.1).1 r z.2
  · rw [if_neg z]
    exact Or.inr rfl
def sgF (s : Nat → Nat) (f : Nat → Nat → Nat) : Sg := E1 (s 2) (coS s f) (s 0 - 1) 1 (fun _ => 0) 0 0 (1000000, fun _ => 0)
theorem sX_assign {M : Mm} {s : Nat → Nat} {f : Nat → Nat → Nat} {T : Nat} {post : Mm → Prop} (hX : HX 3 M s f) (hV : Vt T s f) (h2 : 2 ≤ s 0) (h : ∀ M1 : Mm, oW M M1 → M1.1 60 5 = nI (sgF s f).1 → ((sgF s f).1 < 1000000 → ∀ q, 1 ≤ q → q < s 0 → M1.1 70 q = nI ((sgF s f).2 q)) → post M1) : w_X9_assign M post := by
  have hs := hV.1.2.2.1
  have hs0 := hV.1.1
  have key : ∀ m p (M1 : Mm), p + m = s 2 → oW M M1 → (∀ p' q, p' < p → q < s 0 → M1.1 (64 + p') q = nI (coS s f p' q)) → w_X9_assign_2 post (m + 1) (nI p) M1 := by
    intro m
    induction m with
    | zero =>
      intro p M1 hp o1 h1
      obtain rfl : p = s 2 := by omega
      refine pk_le (s 2) (s 2) (fun _ M2 e2 => ?_) (fun z => absurd z (by omega)) (H3_people (o1.hx hX))
      have o2 : oW M M2 := fun n hn => by rw [cpo e2 (by omega), o1 n hn]
      refine sX_df hV (coS_or hV) (s 0 - 1) 8 1 (fun _ => 0) 0 0 (1000000, fun _ => 0) M2 _ (by omega) (by omega) (by omega) (by omega) (o2.hx hX) ⟨fun p q hp hq => by rw [cpo e2 (by omega)]; exact h1 p q hp hq, by rw [e2, wI_same, pk_us]; rfl, Nat.le_refl _, fun z => absurd z (by decide), fun q q1 q2 => absurd q2 (by omega)⟩ (fun M3 o3 h3 => ?_)
      rw [DF_E1 _ _ _ _ _ _ _ _ (Nat.le_refl _)] at h3
      exact h M3 (o2.tr o3) h3.2.1 h3.2.2.2.1
    | succ m ih =>
      intro p M1 hp o1 h1
      have hX1 := o1.hx hX
      have vi := hV.2.2.2.1 p (by omega)
      refine pk_le (s 2) p (fun z => absurd z (by omega)) (fun _ => ⟨vp_i (by omega) (by decide), ?_⟩) (H3_people hX1)
      rw [cl_i (show p < 2 ^ 31 by omega), H3_place hX1 (by omega)]
      refine sX_measure hX1 hV (by omega) vi.2.2.2.1 (fun M9 o9 t9 d9 M11 e11 => ?_)
      have z0 : (0 : Int32).toNatClampNeg = 0 := by decide
      have z5 : (5 : Int32).toNatClampNeg = 5 := by decide
      rw [z0, z5] at e11
      rw [nI_1]
      refine ih (p + 1) M11 (by omega) (fun n hn => by rw [cpo e11 (by omega), o9 n (by omega) (by omega), o1 n hn]) (fun p' q hp' hq => ?_)
      by_cases w : p' = p
      · rw [w, e11, wI_same, pk_cpy_in (by omega) (by omega), show 0 + (q - 0) = q by omega, d9 q hq]
        unfold coS
        rw [if_pos ⟨by omega, hq⟩]
      · rw [cpo e11 (by omega), o9 _ (by omega) (by omega)]
        exact h1 p' q (by omega) hq
  exact ⟨s 2 + 1, key (s 2) 0 M (by omega) (fun _ _ => rfl) (fun p' q hp' => absurd hp' (by omega))⟩
