/-! ===== meet ===== -/
def ad (d : Nat → Nat) (q x : Nat) : Nat → Nat := upN d q (d q + x)
def shP (f : Nat → Nat → Nat) (r x : Nat) : Nat → Nat → (Nat → Nat) → (Nat → Nat)
  | 0, _, d => d
  | m + 1, v, d => shP f r x m (v + 1) (if f 0 v = r ∨ f 1 v = r then ad d (ac f v r) x else d)
def rmS (s : Nat → Nat) (f : Nat → Nat → Nat) (ch : Nat → Nat) (r : Nat) (d : Nat → Nat) : Nat → Nat := if dF f r (s 1) 0 = 0 then ad d r (ch r * 420) else shP f r (ch r * (420 / dF f r (s 1) 0)) (s 1) 0 d
def tnS (s : Nat → Nat) (f : Nat → Nat → Nat) (ch : Nat → Nat) : Nat → Nat → (Nat → Nat) → (Nat → Nat)
  | 0, _, d => d
  | k + 1, r, d => tnS s f ch k (r + 1) (rmS s f ch r d)
def tn (s : Nat → Nat) (f : Nat → Nat → Nat) (ch : Nat → Nat) : Nat → Nat := tnS s f ch (s 0) 0 (fun _ => 0)
def tnN (s : Nat → Nat) (f : Nat → Nat → Nat) : Nat → (Nat → Nat) → (Nat → Nat)
  | 0, ch => ch
  | k + 1, ch => tnN s f k (tn s f ch)
theorem sumD_up {d : Nat → Nat} {n q x : Nat} (hq : q < n) : sumD (ad d q x) n = sumD d n + x := by
  have out : ∀ m, m ≤ q → sumD (ad d q x) m = sumD d m := by
    intro m
    induction m with
    | zero => intro _; rfl
    | succ m ih =>
      intro hm
      show sumD (ad d q x) m + ad d q x m = sumD d m + d m
      rw [ih (by omega)]
      unfold ad
      rw [upN_n (by omega)]
  induction n with
  | zero => omega
  | succ n ih =>
    show sumD (ad d q x) n + ad d q x n = sumD d n + d n + x
    by_cases z : q = n
    · subst z
      rw [out q (Nat.le_refl _)]
      unfold ad
      rw [upN_s]
      omega
    · rw [ih (by omega)]
      unfold ad
      rw [upN_n (by omega)]
      omega
theorem shP_sum {T : Nat} {s : Nat → Nat} {f : Nat → Nat → Nat} (hV : Vt T s f) (r x m : Nat) : ∀ v d, v + m = s 1 → sumD (shP f r x m v d) (s 0) = sumD d (s 0) + dF f r m v * x := by
  induction m with
  | zero =>
    intro v d _
    show sumD d (s 0) = sumD d (s 0) + 0 * x
    rw [Nat.zero_mul, Nat.add_zero]
  | succ m ih =>
    intro v d hv
    show sumD (shP f r x m (v + 1) (if f 0 v = r ∨ f 1 v = r then ad d (ac f v r) x else d)) (s 0) = sumD d (s 0) + ((if f 0 v = r ∨ f 1 v = r then 1 else 0) + dF f r m (v + 1)) * x
    rw [ih (v + 1) _ (by omega)]
    by_cases z : f 0 v = r ∨ f 1 v = r
    · rw [if_pos z, if_pos z, sumD_up (ac_lt hV (by omega) r), Nat.add_mul, Nat.one_mul]
      omega
    · rw [if_neg z, if_neg z, Nat.zero_add]
theorem rmS_sum {T : Nat} {s : Nat → Nat} {f : Nat → Nat → Nat} (hV : Vt T s f) (ch d : Nat → Nat) {r : Nat} (hr : r < s 0) : sumD (rmS s f ch r d) (s 0) ≤ sumD d (s 0) + 420 * ch r := by
  unfold rmS
  by_cases z : dF f r (s 1) 0 = 0
  · rw [if_pos z, sumD_up hr, Nat.mul_comm]
    exact Nat.le_refl _
  · rw [if_neg z, shP_sum hV r _ (s 1) 0 d (by omega)]
    have h1 : dF f r (s 1) 0 * (ch r * (420 / dF f r (s 1) 0)) = ch r * (dF f r (s 1) 0 * (420 / dF f r (s 1) 0)) := by
      rw [Nat.mul_left_comm]
    have h2 : dF f r (s 1) 0 * (420 / dF f r (s 1) 0) ≤ 420 := Nat.mul_div_le 420 _
    have h3 := Nat.mul_le_mul_left (ch r) h2
    rw [h1]
    have h4 : ch r * 420 = 420 * ch r := Nat.mul_comm _ _
    omega
theorem tnS_sum {T : Nat} {s : Nat → Nat} {f : Nat → Nat → Nat} (hV : Vt T s f) (ch : Nat → Nat) (k : Nat) : ∀ r d, r + k = s 0 → sumD d (s 0) ≤ 420 * sumD ch r → sumD (tnS s f ch k r d) (s 0) ≤ 420 * sumD ch (s 0) := by
  induction k with
  | zero =>
    intro r d hr h
    obtain rfl : r = s 0 := by omega
    exact h
  | succ k ih =>
    intro r d hr h
    refine ih (r + 1) (rmS s f ch r d) (by omega) ?_
    have := rmS_sum hV ch d (show r < s 0 by omega)
    show _ ≤ 420 * (sumD ch r + ch r)
    omega
theorem sumD_0 (n : Nat) : sumD (fun _ => 0) n = 0 := by
  induction n with
  | zero => rfl
  | succ n ih =>
    show sumD (fun _ => 0) n + 0 = 0
    rw [ih]
theorem tn_sum {T : Nat} {s : Nat → Nat} {f : Nat → Nat → Nat} (hV : Vt T s f) (ch : Nat → Nat) : sumD (tn s f ch) (s 0) ≤ 420 * sumD ch (s 0) := by
  refine tnS_sum hV ch (s 0) 0 (fun _ => 0) (by omega) ?_
  rw [sumD_0]
  exact Nat.zero_le _
theorem tnN_sum {T : Nat} {s : Nat → Nat} {f : Nat → Nat → Nat} (hV : Vt T s f) (k : Nat) : ∀ ch, sumD (tnN s f k ch) (s 0) ≤ 420 ^ k * sumD ch (s 0) := by
  induction k with
  | zero =>
    intro ch
    show sumD ch (s 0) ≤ 420 ^ 0 * sumD ch (s 0)
    omega
  | succ k ih =>
    intro ch
    have h1 := ih (tn s f ch)
    have h2 := Nat.mul_le_mul_left (420 ^ k) (tn_sum hV ch)
    show sumD (tnN s f k (tn s f ch)) (s 0) ≤ 420 ^ (k + 1) * sumD ch (s 0)
    rw [Nat.pow_succ, Nat.mul_assoc]
    omega
def e1 (g : Nat) : Nat → Nat := fun i => if i = g then 1 else 0
theorem e1_sum (g n : Nat) : sumD (e1 g) n ≤ 1 := by
  have lo : ∀ m, m ≤ g → sumD (e1 g) m = 0 := by
    intro m
    induction m with
    | zero => intro _; rfl
    | succ m ih =>
      intro hm
      show sumD (e1 g) m + (if m = g then 1 else 0) = 0
      rw [ih (by omega), if_neg (by omega)]
  induction n with
  | zero => exact Nat.zero_le _
  | succ n ih =>
    show sumD (e1 g) n + (if n = g then 1 else 0) ≤ 1
    by_cases z : n = g
    · rw [if_pos z, lo n (by omega)]
      exact Nat.le_refl _
    · rw [if_neg z]
      omega
def dot (a b : Nat → Nat) : Nat → Nat
  | 0 => 0
  | n + 1 => dot a b n + a n * b n
theorem dot_le (a b : Nat → Nat) (n : Nat) : dot a b n ≤ sumD a n * sumD b n := by
  induction n with
  | zero => exact Nat.le_refl _
  | succ n ih =>
    show dot a b n + a n * b n ≤ (sumD a n + a n) * (sumD b n + b n)
    rw [Nat.add_mul, Nat.mul_add, Nat.mul_add]
    omega
def mT (s : Nat → Nat) (f : Nat → Nat → Nat) (t i : Nat) : Nat → Nat := tnN s f t (e1 (f 6 i))
def mA (s : Nat → Nat) (f : Nat → Nat → Nat) (t i j : Nat) : Nat := dot (mT s f t i) (mT s f t j) (s 0)
def mB (t : Nat) : Nat := 176400 ^ t
theorem mA_le {T : Nat} {s : Nat → Nat} {f : Nat → Nat → Nat} (hV : Vt T s f) (t i j : Nat) : mA s f t i j ≤ mB t := by
  have h0 := dot_le (mT s f t i) (mT s f t j) (s 0)
  have h1 : sumD (mT s f t i) (s 0) ≤ 420 ^ t := by
    have a1 := tnN_sum hV t (e1 (f 6 i))
    have a2 := Nat.mul_le_mul_left (420 ^ t) (e1_sum (f 6 i) (s 0))
    rw [Nat.mul_one] at a2
    exact Nat.le_trans a1 a2
  have h2 : sumD (mT s f t j) (s 0) ≤ 420 ^ t := by
    have a1 := tnN_sum hV t (e1 (f 6 j))
    have a2 := Nat.mul_le_mul_left (420 ^ t) (e1_sum (f 6 j) (s 0))
    rw [Nat.mul_one] at a2
    exact Nat.le_trans a1 a2
  have h3 := Nat.mul_le_mul h1 h2
  have h4 : 420 ^ t * 420 ^ t = mB t := by
    unfold mB
    rw [← Nat.mul_pow]
  rw [h4] at h3
  exact Nat.le_trans h0 h3
theorem mB_lt {t : Nat} (h : t ≤ 3) : mB t < 2 ^ 53 ∧ 0 < mB t := by
  unfold mB
  rcases (show t = 0 ∨ t = 1 ∨ t = 2 ∨ t = 3 by omega) with rfl | rfl | rfl | rfl <;> decide
/-! the greatest that goes into both -/
theorem lc0 {y : Nat} (h : y < 2 ^ 63) : lg_cmp (lN y) (0 : Int64) = 0 ↔ y = 0 := by
  rw [lg_cmp_eq]
  exact pk_lEQ (b := 0) h (by decide)
theorem mod_half {y z : Nat} (h0 : 0 < z) (h : z < y) : 2 * (y % z) < y + 1 := by
  have h1 := Nat.mod_lt y h0
  have h2 := Nat.mod_add_div y z
  have h3 : 1 ≤ y / z := by
    rw [Nat.le_div_iff_mul_le h0]
    omega
  have h4 : z ≤ z * (y / z) := Nat.le_mul_of_pos_right z (by omega)
  omega
theorem sX_gcd {M : Mm} {post : Int64 → Mm → Prop} (k : Nat) : ∀ x y j, y < 2 ^ k → x < 2 ^ 62 → y < 2 ^ 62 → j + 2 * k ≤ 199 → post (lN (Nat.gcd y x)) M → w_X8_commonDivisor_9 post (2 * k + 2) (lN x) (lN y) (nI j) M := by
  induction k with
  | zero =>
    intro x y j hy hx hy2 hj h
    obtain rfl : y = 0 := by omega
    rw [Nat.gcd_zero_left] at h
    exact pk_le 200 j (fun z => absurd z (by omega)) (fun _ => pb_t ((lc0 (by decide)).mpr rfl) h)
  | succ k ih =>
    intro x y j hy hx hy2 hj h
    rw [show 2 * (k + 1) + 2 = (2 * k + 2) + 1 + 1 by omega]
    refine pk_le 200 j (fun z => absurd z (by omega)) (fun _ => ⟨fun z => ?_, fun z => ?_⟩)
    · have := (lc0 (by omega)).mp z
      rw [this, Nat.gcd_zero_left] at h
      exact h
    · have y0 : y ≠ 0 := fun q => z ((lc0 (by omega)).mpr q)
      refine ⟨fun q => y0 ((pk_lEQ (b := 0) (by omega) (by decide)).mp q), ?_⟩
      rw [pk_lRem (by omega) (by omega) (by omega), nI_1]
      have e1' : Nat.gcd y x = Nat.gcd (x % y) y := by
        rw [Nat.gcd_rec y x]
      rw [e1'] at h
      have zl := Nat.mod_lt x (show 0 < y by omega)
      generalize x % y = z1 at h zl ⊢
      refine pk_le 200 (j + 1) (fun z => absurd z (by omega)) (fun _ => ⟨fun w => ?_, fun w => ?_⟩)
      · have := (lc0 (by omega)).mp w
        rw [this, Nat.gcd_zero_left] at h
        exact h
      · have z0 : z1 ≠ 0 := fun q => w ((lc0 (by omega)).mpr q)
        refine ⟨fun q => z0 ((pk_lEQ (b := 0) (by omega) (by decide)).mp q), ?_⟩
        rw [pk_lRem (by omega) (by omega) (by omega), nI_1]
        have mh := mod_half (show 0 < z1 by omega) zl
        have p2 : 2 ^ (k + 1) = 2 * 2 ^ k := by rw [Nat.pow_succ, Nat.mul_comm]
        have ml := Nat.mod_lt y (show 0 < z1 by omega)
        have e2' : Nat.gcd z1 y = Nat.gcd (y % z1) z1 := by
          rw [Nat.gcd_rec z1 y]
        rw [e2'] at h
        exact ih z1 (y % z1) (j + 1 + 1) (by omega) (by omega) (by omega) (by omega) h
theorem sM_gcd {M : Mm} {post : Int64 → Mm → Prop} (k : Nat) : ∀ x y, y < 2 ^ k → x < 2 ^ 62 → y < 2 ^ 62 → post (lN (Nat.gcd y x)) M → w_X12_divisor_6 post (2 * k + 2) (lN x) (lN y) M := by
  induction k with
  | zero =>
    intro x y hy hx hy2 h
    obtain rfl : y = 0 := by omega
    rw [Nat.gcd_zero_left] at h
    exact pb_t ((lc0 (by decide)).mpr rfl) h
  | succ k ih =>
    intro x y hy hx hy2 h
    rw [show 2 * (k + 1) + 2 = (2 * k + 2) + 1 + 1 by omega]
    refine ⟨fun z => ?_, fun z => ?_⟩
    · have := (lc0 (by omega)).mp z
      rw [this, Nat.gcd_zero_left] at h
      exact h
    · have y0 : y ≠ 0 := fun q => z ((lc0 (by omega)).mpr q)
      refine ⟨fun q => y0 ((pk_lEQ (b := 0) (by omega) (by decide)).mp q), ?_⟩
      rw [pk_lRem (by omega) (by omega) (by omega)]
      have e1' : Nat.gcd y x = Nat.gcd (x % y) y := by
        rw [Nat.gcd_rec y x]
      rw [e1'] at h
      have zl := Nat.mod_lt x (show 0 < y by omega)
      generalize x % y = z1 at h zl ⊢
      refine ⟨fun w => ?_, fun w => ?_⟩
      · have := (lc0 (by omega)).mp w
        rw [this, Nat.gcd_zero_left] at h
        exact h
      · have z0 : z1 ≠ 0 := fun q => w ((lc0 (by omega)).mpr q)
        refine ⟨fun q => z0 ((pk_lEQ (b := 0) (by omega) (by decide)).mp q), ?_⟩
        rw [pk_lRem (by omega) (by omega) (by omega)]
        have mh := mod_half (show 0 < z1 by omega) zl
        have p2 : 2 ^ (k + 1) = 2 * 2 ^ k := by rw [Nat.pow_succ, Nat.mul_comm]
        have ml := Nat.mod_lt y (show 0 < z1 by omega)
        have e2' : Nat.gcd z1 y = Nat.gcd (y % z1) z1 := by
          rw [Nat.gcd_rec z1 y]
        rw [e2'] at h
        exact ih z1 (y % z1) (by omega) (by omega) (by omega) h
/-! the class's rows -/
theorem HX.wj {b : Nat} {M M1 : Mm} {s : Nat → Nat} {f : Nat → Nat → Nat} (h : HX b M s f) (e : M1.1 = M.1) : HX b M1 s f := h.cg (fun n _ _ => by rw [e])
theorem jpo {M M1 : Mm} {r n : Nat} {F : Nat → Int64} (e : M1 = wJ M r F) (h : n ≠ r) : M1.2 n = M.2 n := by rw [e, wJ_ne _ _ h]
theorem sX_fillL {an : Nat} {x : Int64} {M : Mm} {post : Mm → Prop} (h : ∀ M1 : Mm, M1.1 = M.1 → (∀ q, q ≠ an → M1.2 q = M.2 q) → (∀ r, r < 5 → M1.2 an r = x) → post M1) : w_J7_fill_d0a16 an x M post := by
  have key : ∀ m v (M' : Mm), v + m = 5 → M'.1 = M.1 → (∀ q, q ≠ an → M'.2 q = M.2 q) → (∀ r, r < v → M'.2 an r = x) → w_J7_fill_d0a16_6 an post (m + 1) x (nI v) 5 M' := by
    intro m
    induction m with
    | zero =>
      intro v M' hv h0 h1 h2
      obtain rfl : v = 5 := by omega
      exact pb_t (by decide) (h M' h0 h1 h2)
    | succ m ih =>
      intro v M' hv h0 h1 h2
      refine pk_le 5 v (fun z => absurd z (by omega)) (fun _ => ⟨vp_i (by omega) (by decide), fun M3 e3 => ?_⟩)
      rw [cl_i (by omega)] at e3
      rw [nI_1]
      refine ih (v + 1) M3 (by omega) (by rw [e3]; exact h0) (fun q hq => by rw [jpo e3 hq, h1 q hq]) (fun r hr => ?_)
      rw [e3, wJ_same]
      by_cases c : r = v
      · rw [c, pk_uLs]
      · rw [pk_uLn c]
        exact h2 r (by omega)
  exact ⟨6, key 5 0 M rfl rfl (fun _ _ => rfl) (fun r hr => absurd hr (by omega))⟩
theorem sX_share {s : Nat → Nat} {f : Nat → Nat → Nat} {T r : Nat} {d ch : Nat → Nat} {M : Mm} {post : Mm → Prop} (hX : HX 3 M s f) (hV : Vt T s f) (hr : r < s 0) (hd : ∀ q, q < 5 → M.2 83 q = lN (d q)) (h : ∀ M1 : Mm, M1.1 = M.1 → (∀ q, q ≠ 83 → M1.2 q = M.2 q) → (∀ q, q < 5 → M1.2 83 q = lN (rmS s f ch r d q)) → post M1) : w_X8_shareOut (nI r) (lN (ch r)) M post := by
  have hs0 := hV.1.1
  have hs1 := hV.1.2.1
  have dl := dF_le f r (s 1) 0
  unfold w_X8_shareOut
  unfold rmS at h
  refine sX_doors hX hV (by omega) ?_
  refine pk_lt 0 (dF f r (s 1) 0) (fun z => ?_) (fun z => ?_)
  · rw [if_neg (by omega)] at h
    have e0 : (nI (dF f r (s 1) 0)).toInt64 = lN (dF f r (s 1) 0) := nI_l (by omega)
    have e4 : (420 : Int64) = lN 420 := rfl
    rw [e0, e4, pk_lDiv (by decide) (by omega) (by omega), lN_mul]
    refine ⟨fun q => ?_, s 1 + 1, ?_⟩
    · have := (pk_lEQ (b := 0) (by omega) (by decide)).mp q
      omega
    · generalize ch r * (420 / dF f r (s 1) 0) = x at h ⊢
      have key : ∀ m v (e : Nat → Nat) (M1 : Mm), v + m = s 1 → M1.1 = M.1 → (∀ q, q ≠ 83 → M1.2 q = M.2 q) → (∀ q, q < 5 → M1.2 83 q = lN (e q)) → (∀ M2 : Mm, M2.1 = M.1 → (∀ q, q ≠ 83 → M2.2 q = M.2 q) → (∀ q, q < 5 → M2.2 83 q = lN (shP f r x m v e q)) → post M2) → w_X8_shareOut_41 post (m + 1) (nI r) (lN x) (nI v) M1 := by
        intro m
        induction m with
        | zero =>
          intro v e M1 hv k0 k1 k2 g
          exact pk_le (s 1) v (fun _ => g M1 k0 k1 k2) (fun y => absurd y (by omega)) (H3_passages (hX.wj k0))
        | succ m ih =>
          intro v e M1 hv k0 k1 k2 g
          have hX1 := hX.wj k0
          have g2 : ∀ M2 : Mm, M2.1 = M.1 → (∀ q, q ≠ 83 → M2.2 q = M.2 q) → (∀ q, q < 5 → M2.2 83 q = lN (shP f r x m (v + 1) (if f 0 v = r ∨ f 1 v = r then ad e (ac f v r) x else e) q)) → post M2 := g
          have a1 := ac_lt hV (show v < s 1 by omega) r
          refine pk_le (s 1) v (fun y => absurd y (by omega)) (fun _ => sX_endsAt hX1 hV (by omega) (by omega) (fun y => pb_1 (sX_across hX1 hV (by omega) (by omega) ⟨vp_i (by omega) (by decide), fun M10 e10 => ?_⟩)) (fun y => pb_0 ?_)) (H3_passages hX1)
          · unfold ea at y
            rw [if_pos y] at g2
            rw [cl_i (by omega), k2 _ (by omega), lN_add] at e10
            rw [nI_1]
            refine ih (v + 1) (ad e (ac f v r) x) M10 (by omega) (by rw [e10]; exact k0) (fun q hq => by rw [jpo e10 hq, k1 q hq]) (fun q hq => ?_) g2
            rw [e10, wJ_same]
            unfold ad
            by_cases w : q = ac f v r
            · rw [w, pk_uLs, upN_s]
            · rw [pk_uLn w, upN_n w]
              exact k2 q hq
          · unfold ea at y
            rw [if_neg y] at g2
            rw [nI_1]
            exact ih (v + 1) e M1 (by omega) k0 k1 k2 g2
      exact key (s 1) 0 d M (by omega) rfl (fun _ _ => rfl) hd h
  · rw [if_pos (by omega)] at h
    refine ⟨vp_i (by omega) (by decide), fun M18 e18 => ?_⟩
    have e4 : (420 : Int64) = lN 420 := rfl
    rw [cl_i (by omega), hd r (by omega), e4, lN_mul, lN_add] at e18
    refine h M18 (by rw [e18]; rfl) (fun q hq => jpo e18 hq) (fun q hq => ?_)
    rw [e18, wJ_same]
    unfold ad
    by_cases w : q = r
    · rw [w, pk_uLs, upN_s]
    · rw [pk_uLn w, upN_n w]
      exact hd q hq
theorem sX_spread {an : Nat} {s : Nat → Nat} {f : Nat → Nat → Nat} {T g t : Nat} {M : Mm} {post : Mm → Prop} (han : an ≠ 83) (hX : HX 3 M s f) (hV : Vt T s f) (hg : g < s 0) (ht : t ≤ 3) (h : ∀ M1 : Mm, M1.1 = M.1 → (∀ q, q ≠ 83 → q ≠ an → M1.2 q = M.2 q) → (∀ q, q < 5 → M1.2 an q = lN (tnN s f t (e1 g) q)) → post M1) : w_X8_spread an (nI g) (nI t) M post := by
  have hs0 := hV.1.1
  have L31 : ∀ (k14 : Int32 → Int32 → Mm → Prop) (v : Int32) (ch : Nat → Nat) (hk : ∀ M1 : Mm, M1.1 = M.1 → (∀ q, q ≠ 83 → q ≠ an → M1.2 q = M.2 q) → (∀ q, q < 5 → M1.2 an q = lN (tn s f ch q)) → k14 (nI t) (v + 1) M1), ∀ m r (d : Nat → Nat) (M1 : Mm), r + m = s 0 → M1.1 = M.1 → (∀ q, q ≠ 83 → q ≠ an → M1.2 q = M.2 q) → (∀ q, q < 5 → M1.2 an q = lN (ch q)) → (∀ q, q < 5 → M1.2 83 q = lN (d q)) → tnS s f ch m r d = tn s f ch → w_X8_spread_31 an post k14 (m + 1) (nI t) v (nI r) M1 := by
    intro k14 v ch hk m
    induction m with
    | zero =>
      intro r d M1 hr k0 k1 k2 k3 k4
      have k4' : d = tn s f ch := k4
      refine pk_le (s 0) r (fun _ M2 e2 => ?_) (fun z => absurd z (by omega)) (H3_rooms (hX.wj k0))
      have z0 : (0 : Int32).toNatClampNeg = 0 := by decide
      have z5 : (5 : Int32).toNatClampNeg = 5 := by decide
      rw [z0, z5] at e2
      refine hk M2 (by rw [e2]; exact k0) (fun q q1 q2 => by rw [jpo e2 q2, k1 q q1 q2]) (fun q hq => ?_)
      rw [e2, wJ_same, pk_cpy_in (by omega) (by omega), show 0 + (q - 0) = q by omega, k3 q hq, k4']
    | succ m ih =>
      intro r d M1 hr k0 k1 k2 k3 k4
      refine pk_le (s 0) r (fun z => absurd z (by omega)) (fun _ => ⟨vp_i (by omega) (by decide), ?_⟩) (H3_rooms (hX.wj k0))
      rw [cl_i (by omega), k2 r (by omega)]
      refine sX_share (hX.wj k0) hV (by omega) k3 (fun M2 j0 j1 j2 => ?_)
      rw [nI_1]
      exact ih (r + 1) (rmS s f ch r d) M2 (by omega) (j0.trans k0) (fun q q1 q2 => by rw [j1 q q1, k1 q q1 q2]) (fun q hq => by rw [j1 an han]; exact k2 q hq) j2 k4
  have L14 : ∀ m v (ch : Nat → Nat) (M1 : Mm), v + m = t → M1.1 = M.1 → (∀ q, q ≠ 83 → q ≠ an → M1.2 q = M.2 q) → (∀ q, q < 5 → M1.2 an q = lN (ch q)) → tnN s f m ch = tnN s f t (e1 g) → w_X8_spread_14 an post (m + 1) (nI t) (nI v) M1 := by
    intro m
    induction m with
    | zero =>
      intro v ch M1 hv k0 k1 k2 k3
      have k3' : ch = tnN s f t (e1 g) := k3
      refine pk_le t v (fun _ => h M1 k0 k1 (fun q hq => by rw [k2 q hq, k3'])) (fun z => absurd z (by omega))
    | succ m ih =>
      intro v ch M1 hv k0 k1 k2 k3
      refine pk_le t v (fun z => absurd z (by omega)) (fun _ => sX_fillL (fun M10 j0 j1 j2 => ⟨s 0 + 1, ?_⟩))
      refine L31 _ (nI v) ch (fun M2 i0 i1 i2 => ?_) (s 0) 0 (fun _ => 0) M10 (by omega) (j0.trans k0) (fun q q1 q2 => by rw [j1 q q1, k1 q q1 q2]) (fun q hq => by rw [j1 an han]; exact k2 q hq) (fun q hq => by rw [j2 q hq]; rfl) rfl
      rw [nI_1]
      exact ih (v + 1) (tn s f ch) M2 (by omega) i0 i1 i2 k3
  unfold w_X8_spread
  refine sX_fillL (fun M13 j0 j1 j2 => ⟨vp_i (by omega) (by decide), fun M16 e16 => ⟨t + 1, ?_⟩⟩)
  rw [cl_i (by omega)] at e16
  refine L14 t 0 (e1 g) M16 (by omega) (by rw [e16]; exact j0) (fun q q1 q2 => by rw [jpo e16 q2, j1 q q2]) (fun q hq => ?_) rfl
  rw [e16, wJ_same]
  show vp_updL (M13.2 an) g 1 q = lN (if q = g then 1 else 0)
  by_cases w : q = g
  · rw [w, pk_uLs, if_pos rfl]
    rfl
  · rw [pk_uLn w, if_neg w, j2 q hq]
    rfl
theorem sX_compare {s : Nat → Nat} {f : Nat → Nat → Nat} {T i j t : Nat} {M : Mm} {post : Mm → Prop} (hX : HX 3 M s f) (hV : Vt T s f) (hi : i < s 2) (hj : j < s 2) (ht : t ≤ 3) (h : ∀ M1 : Mm, M1.1 = M.1 → M1.2 80 4 = lN (mA s f t i j / Nat.gcd (mB t) (mA s f t i j)) → M1.2 80 5 = lN (mB t / Nat.gcd (mB t) (mA s f t i j)) → post M1) : w_X8_compare (nI i) (nI j) (nI t) M post := by
  have hs := hV.1.2.2.1
  have hs0 := hV.1.1
  have vi := hV.2.2.2.1 i hi
  have vj := hV.2.2.2.1 j hj
  have al := mA_le hV t i j
  have bl := mB_lt ht
  unfold w_X8_compare
  refine ⟨vp_i (by omega) (by decide), ?_⟩
  rw [cl_i (show i < 2 ^ 31 by omega), H3_place hX (by omega)]
  refine sX_spread (by decide) hX hV vi.2.2.2.1 ht (fun M21 a0 a1 a2 => ⟨vp_i (by omega) (by decide), ?_⟩)
  have X21 := hX.wj a0
  rw [cl_i (show j < 2 ^ 31 by omega), H3_place X21 (by omega)]
  refine sX_spread (by decide) X21 hV vj.2.2.2.1 ht (fun M25 b0 b1 b2 M27 e27 => ⟨s 0 + 1, ?_⟩)
  have L89 : ∀ m v (M1 : Mm), v + m = t → M1.1 = M.1 → M1.2 80 4 = lN (mA s f t i j) → M1.2 80 5 = lN (mB v) → w_X8_compare_89 post (m + 1) (nI t) (nI v) M1 := by
    intro m
    induction m with
    | zero =>
      intro v M1 hv k0 k1 k2
      obtain rfl : v = t := by omega
      refine pk_le v v (fun _ => ?_) (fun z => absurd z (by omega))
      rw [k1, k2]
      have gp : 0 < Nat.gcd (mB v) (mA s f v i j) := Nat.gcd_pos_of_pos_left _ bl.2
      have gl : Nat.gcd (mB v) (mA s f v i j) ≤ mB v := Nat.le_of_dvd bl.2 (Nat.gcd_dvd_left _ _)
      refine ⟨2 * 53 + 2, sX_gcd 53 (mA s f v i j) (mB v) 0 bl.1 (by omega) (by omega) (by omega) ?_⟩
      have nle : ¬ lg_cmp (lN (Nat.gcd (mB v) (mA s f v i j))) (0 : Int64) ≤ 0 := by
        rw [lg_cmp_le]
        intro q
        have := (pk_lLE (b := 0) (by omega) (by decide)).mp q
        omega
      refine pb_f nle ⟨fun q => ?_, fun M7 e7 M9 e9 => ?_⟩
      · have := (pk_lEQ (b := 0) (by omega) (by decide)).mp q
        omega
      · have e75 : M7.2 80 5 = lN (mB v) := by rw [e7, wJ_same, pk_uLn (by decide)]; exact k2
        rw [k1, pk_lDiv (by omega) gp (by omega)] at e7
        rw [e75, pk_lDiv (by omega) gp (by omega)] at e9
        refine h M9 (by rw [e9, e7]; exact k0) ?_ ?_
        · rw [e9, wJ_same, pk_uLn (by decide), e7, wJ_same, pk_uLs]
        · rw [e9, wJ_same, pk_uLs]
    | succ m ih =>
      intro v M1 hv k0 k1 k2
      refine pk_le t v (fun z => absurd z (by omega)) (fun _ M11 e11 => ?_)
      have e4 : (176400 : Int64) = lN 176400 := rfl
      rw [k2, e4, lN_mul] at e11
      rw [nI_1]
      refine ih (v + 1) M11 (by omega) (by rw [e11]; exact k0) ?_ ?_
      · rw [e11, wJ_same, pk_uLn (by decide)]; exact k1
      · rw [e11, wJ_same, pk_uLs]
        unfold mB
        rw [Nat.pow_succ]
  have L42 : ∀ m v (M1 : Mm), v + m = s 0 → M1.1 = M.1 → (∀ q, q < 5 → M1.2 81 q = lN (mT s f t i q)) → (∀ q, q < 5 → M1.2 82 q = lN (mT s f t j q)) → M1.2 80 4 = lN (dot (mT s f t i) (mT s f t j) v) → w_X8_compare_42 post (m + 1) (nI t) (nI v) M1 := by
    intro m
    induction m with
    | zero =>
      intro v M1 hv k0 k1 k2 k3
      obtain rfl : v = s 0 := by omega
      refine pk_le (s 0) (s 0) (fun _ M14 e14 => ⟨t + 1, ?_⟩) (fun z => absurd z (by omega)) (H3_rooms (hX.wj k0))
      refine L89 t 0 M14 (by omega) (by rw [e14]; exact k0) ?_ ?_
      · rw [e14, wJ_same, pk_uLn (by decide)]; exact k3
      · rw [e14, wJ_same, pk_uLs]; rfl
    | succ m ih =>
      intro v M1 hv k0 k1 k2 k3
      refine pk_le (s 0) v (fun z => absurd z (by omega)) (fun _ => ⟨vp_i (by omega) (by decide), fun M17 e17 => ?_⟩) (H3_rooms (hX.wj k0))
      rw [cl_i (by omega), k1 v (by omega), k2 v (by omega), k3, lN_mul, lN_add] at e17
      rw [nI_1]
      refine ih (v + 1) M17 (by omega) (by rw [e17]; exact k0) (fun q hq => by rw [jpo e17 (by decide)]; exact k1 q hq) (fun q hq => by rw [jpo e17 (by decide)]; exact k2 q hq) ?_
      rw [e17, wJ_same, pk_uLs]
      rfl
  refine L42 (s 0) 0 M27 (by omega) (by rw [e27]; exact b0.trans a0) (fun q hq => ?_) (fun q hq => ?_) ?_
  · rw [jpo e27 (by decide), b1 81 (by decide) (by decide)]
    exact a2 q hq
  · rw [jpo e27 (by decide)]
    exact b2 q hq
  · rw [e27, wJ_same, pk_uLs]
    rfl
