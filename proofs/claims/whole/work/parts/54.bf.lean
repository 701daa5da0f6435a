/-! ===== the fewest steps to a room: rounds of shortening come to rest ===== -/
def upN (d : Nat → Nat) (k v : Nat) : Nat → Nat := fun i => if i = k then v else d i
theorem upN_s {d : Nat → Nat} {k v : Nat} : upN d k v k = v := by simp [upN]
theorem upN_n {d : Nat → Nat} {k v i : Nat} (h : i ≠ k) : upN d k v i = d i := by simp [upN, h]
/-- one passage, both ways, as class and reference do it -/
def rlx (a b t : Nat) (d : Nat → Nat) : Nat → Nat := upN (upN d a (min (d a) (d b + t))) b (min (upN d a (min (d a) (d b + t)) b) (upN d a (min (d a) (d b + t)) a + t))
def rnd (A B T : Nat → Nat) : Nat → (Nat → Nat) → (Nat → Nat)
  | 0, d => d
  | m + 1, d => rlx (A m) (B m) (T m) (rnd A B T m d)
def rnds (A B T : Nat → Nat) (m : Nat) : Nat → (Nat → Nat) → (Nat → Nat)
  | 0, d => d
  | k + 1, d => rnd A B T m (rnds A B T m k d)
theorem rlx_a {a b t : Nat} {d : Nat → Nat} (h : a ≠ b) : rlx a b t d a = min (d a) (d b + t) := by
  unfold rlx
  rw [upN_n h, upN_s]
theorem rlx_b {a b t : Nat} {d : Nat → Nat} (h : a ≠ b) : rlx a b t d b = min (d b) (min (d a) (d b + t) + t) := by
  unfold rlx
  rw [upN_s, upN_n (Ne.symm h), upN_s]
theorem rlx_n {a b t i : Nat} {d : Nat → Nat} (h1 : i ≠ a) (h2 : i ≠ b) : rlx a b t d i = d i := by
  unfold rlx
  rw [upN_n h2, upN_n h1]
theorem rlx_le {a b t : Nat} {d : Nat → Nat} (h : a ≠ b) (i : Nat) : rlx a b t d i ≤ d i := by
  by_cases h1 : i = a
  · subst h1
    rw [rlx_a h]
    omega
  · by_cases h2 : i = b
    · subst h2
      rw [rlx_b h]
      omega
    · rw [rlx_n h1 h2]
      exact Nat.le_refl _
theorem rnd_le {A B T : Nat → Nat} {m : Nat} (h : ∀ p, p < m → A p ≠ B p) (d : Nat → Nat) (i : Nat) : rnd A B T m d i ≤ d i := by
  induction m with
  | zero => exact Nat.le_refl _
  | succ m ih => exact Nat.le_trans (rlx_le (h m (by omega)) i) (ih (fun p hp => h p (by omega)))
theorem rnds_le {A B T : Nat → Nat} {m : Nat} (h : ∀ p, p < m → A p ≠ B p) (d : Nat → Nat) (k j i : Nat) : rnds A B T m (k + j) d i ≤ rnds A B T m k d i := by
  induction j with
  | zero => exact Nat.le_refl _
  | succ j ih => exact Nat.le_trans (rnd_le h _ i) ih
/-- a lower bound that every passage keeps -/
def Low (A B T : Nat → Nat) (m : Nat) (L : Nat → Nat) : Prop := ∀ p, p < m → L (A p) ≤ L (B p) + T p ∧ L (B p) ≤ L (A p) + T p
theorem rlx_low {a b t : Nat} {d L : Nat → Nat} (hab : a ≠ b) (h : ∀ i, L i ≤ d i) (h1 : L a ≤ L b + t) (h2 : L b ≤ L a + t) (i : Nat) : L i ≤ rlx a b t d i := by
  have ha := h a
  have hb := h b
  by_cases c1 : i = a
  · subst c1
    rw [rlx_a hab]
    omega
  · by_cases c2 : i = b
    · subst c2
      rw [rlx_b hab]
      omega
    · rw [rlx_n c1 c2]
      exact h i
theorem rnd_low {A B T : Nat → Nat} {m : Nat} {L d : Nat → Nat} (hab : ∀ p, p < m → A p ≠ B p) (hL : Low A B T m L) (h : ∀ i, L i ≤ d i) (i : Nat) : L i ≤ rnd A B T m d i := by
  induction m generalizing i with
  | zero => exact h i
  | succ m ih => exact rlx_low (hab m (by omega)) (ih (fun p hp => hab p (by omega)) (fun p hp => hL p (by omega))) (hL m (by omega)).1 (hL m (by omega)).2 i
theorem rnds_low {A B T : Nat → Nat} {m : Nat} {L d : Nat → Nat} (hab : ∀ p, p < m → A p ≠ B p) (hL : Low A B T m L) (h : ∀ i, L i ≤ d i) (k i : Nat) : L i ≤ rnds A B T m k d i := by
  induction k generalizing i with
  | zero => exact h i
  | succ k ih => exact rnd_low hab hL ih i
/-- a round that meets a settled end settles the other end -/
theorem rnd_set {A B T : Nat → Nat} {m : Nat} {L d : Nat → Nat} (hab : ∀ p, p < m → A p ≠ B p) (hL : Low A B T m L) (h : ∀ i, L i ≤ d i) (p : Nat) (hp : p < m) (o r : Nat) (he : (A p = r ∧ B p = o) ∨ (A p = o ∧ B p = r)) (ho : d o = L o) (hr : L r = L o + T p) : rnd A B T m d r = L r := by
  induction m with
  | zero => omega
  | succ m ih =>
    have hab' : ∀ p, p < m → A p ≠ B p := fun p hp => hab p (by omega)
    have hL' : Low A B T m L := fun p hp => hL p (by omega)
    have low := rnd_low hab' hL' h
    have le := rnd_le (T := T) hab' d
    have low2 := rnd_low hab hL h
    have abm := hab m (by omega)
    show rlx (A m) (B m) (T m) (rnd A B T m d) r = L r
    by_cases hpm : p < m
    · have e := ih hab' hL' hpm
      have a1 := rlx_le (t := T m) (d := rnd A B T m d) abm r
      have a2 : L r ≤ rlx (A m) (B m) (T m) (rnd A B T m d) r := low2 r
      omega
    · have : p = m := by omega
      subst this
      have lo := low o
      have leo := le o
      have a2 : L r ≤ rlx (A p) (B p) (T p) (rnd A B T p d) r := low2 r
      rcases he with ⟨e1, e2⟩ | ⟨e1, e2⟩
      · subst e1
        subst e2
        rw [rlx_a abm] at a2 ⊢
        omega
      · subst e1
        subst e2
        rw [rlx_b abm] at a2 ⊢
        omega
/-- how many of the first n have less than v -/
def cntL (L : Nat → Nat) (v : Nat) : Nat → Nat
  | 0 => 0
  | n + 1 => cntL L v n + (if L n < v then 1 else 0)
theorem cntL_le (L : Nat → Nat) (v n : Nat) : cntL L v n ≤ n := by
  induction n with
  | zero => exact Nat.le_refl _
  | succ n ih =>
    show cntL L v n + _ ≤ n + 1
    split <;> omega
theorem cntL_mono (L : Nat → Nat) {v w : Nat} (h : v ≤ w) (n : Nat) : cntL L v n ≤ cntL L w n := by
  induction n with
  | zero => exact Nat.le_refl _
  | succ n ih =>
    show cntL L v n + (if L n < v then 1 else 0) ≤ cntL L w n + (if L n < w then 1 else 0)
    by_cases c : L n < v
    · rw [if_pos c, if_pos (by omega)]
      omega
    · rw [if_neg c]
      omega
theorem cntL_lt (L : Nat → Nat) {v w o : Nat} (h : v ≤ L o) (h2 : L o < w) (n : Nat) (ho : o < n) : cntL L v n < cntL L w n := by
  induction n with
  | zero => omega
  | succ n ih =>
    show cntL L v n + (if L n < v then 1 else 0) < cntL L w n + (if L n < w then 1 else 0)
    by_cases c : o < n
    · have := ih c
      by_cases c2 : L n < v
      · rw [if_pos c2, if_pos (by omega)]
        omega
      · rw [if_neg c2]
        omega
    · have : o = n := by omega
      subst this
      have := cntL_mono L (show v ≤ w by omega) o
      rw [if_neg (by omega), if_pos h2]
      omega
theorem cntL_r (L : Nat → Nat) (r n : Nat) (hr : r < n) : cntL L (L r) n ≤ n - 1 := by
  have h := cntL_lt L (v := L r) (w := L r + 1) (o := r) (Nat.le_refl _) (by omega) n hr
  have := cntL_le L (L r + 1) n
  omega
/-- what holds at rest: the goal has 0, every passage keeps to it, every other room that can be come from has a passage that tells its steps -/
def Rest (A B T : Nat → Nat) (m n g inf : Nat) (L : Nat → Nat) : Prop := L g = 0 ∧ Low A B T m L ∧ ∀ r, r < n → r ≠ g → L r < inf → ∃ p o, p < m ∧ o < n ∧ ((A p = r ∧ B p = o) ∨ (A p = o ∧ B p = r)) ∧ L r = L o + T p
theorem settled {A B T : Nat → Nat} {m n g inf : Nat} {L d : Nat → Nat} (hab : ∀ p, p < m → A p ≠ B p) (hT : ∀ p, p < m → 1 ≤ T p) (hR : Rest A B T m n g inf L) (h : ∀ i, L i ≤ d i) (hg : d g = 0) (k : Nat) : ∀ r, r < n → L r < inf → cntL L (L r) n ≤ k → rnds A B T m k d r = L r := by
  have low := fun k => rnds_low hab hR.2.1 h k
  have g0 : ∀ k, rnds A B T m k d g = 0 := fun k => by
    have := rnds_le (T := T) hab d 0 k g
    rw [Nat.zero_add] at this
    have h0 : rnds A B T m 0 d g = 0 := hg
    omega
  induction k with
  | zero =>
    intro r hr hi hc
    by_cases hrg : r = g
    · subst hrg
      rw [hR.1]
      exact hg
    · obtain ⟨p, o, hp, ho, -, e⟩ := hR.2.2 r hr hrg hi
      have := hT p hp
      have := cntL_lt L (v := L o) (w := L r) (o := o) (Nat.le_refl _) (by omega) n ho
      omega
  | succ k ih =>
    intro r hr hi hc
    by_cases hrg : r = g
    · subst hrg
      rw [hR.1]
      exact g0 (k + 1)
    · obtain ⟨p, o, hp, ho, he, e⟩ := hR.2.2 r hr hrg hi
      have := hT p hp
      have := cntL_lt L (v := L o) (w := L r) (o := o) (Nat.le_refl _) (by omega) n ho
      exact rnd_set hab hR.2.1 (low k) p hp o r he (ih o ho (by omega) (by omega)) e
/-- rounds come to rest -/
def sumD (d : Nat → Nat) : Nat → Nat
  | 0 => 0
  | n + 1 => sumD d n + d n
theorem sumD_le {d e : Nat → Nat} (h : ∀ i, e i ≤ d i) (n : Nat) : sumD e n ≤ sumD d n := by
  induction n with
  | zero => exact Nat.le_refl _
  | succ n ih => exact Nat.add_le_add ih (h n)
theorem sumD_eq {d e : Nat → Nat} (h : ∀ i, e i ≤ d i) (n : Nat) (hs : sumD d n ≤ sumD e n) : ∀ i, i < n → e i = d i := by
  induction n with
  | zero => intro i hi; omega
  | succ n ih =>
    intro i hi
    have h1 := sumD_le h n
    have h2 := h n
    have hs' : sumD d n + d n ≤ sumD e n + e n := hs
    by_cases c : i < n
    · exact ih (by omega) i c
    · have : i = n := by omega
      subst this
      omega
theorem stable_ex {A B T : Nat → Nat} {m : Nat} (hab : ∀ p, p < m → A p ≠ B p) (n : Nat) (c : Nat) : ∀ d : Nat → Nat, sumD d n ≤ c → ∃ k, ∀ i, i < n → rnds A B T m (k + 1) d i = rnds A B T m k d i := by
  have comm : ∀ (k : Nat) (d : Nat → Nat), rnds A B T m k (rnd A B T m d) = rnds A B T m (k + 1) d := by
    intro k
    induction k with
    | zero => intro d; rfl
    | succ k ih =>
      intro d
      show rnd A B T m (rnds A B T m k (rnd A B T m d)) = rnd A B T m (rnds A B T m (k + 1) d)
      rw [ih]
  induction c with
  | zero =>
    intro d hd
    refine ⟨0, fun i hi => ?_⟩
    exact sumD_eq (rnd_le hab d) n (by omega) i hi
  | succ c ih =>
    intro d hd
    by_cases hs : sumD d n ≤ sumD (rnd A B T m d) n
    · exact ⟨0, fun i hi => sumD_eq (rnd_le hab d) n hs i hi⟩
    · obtain ⟨k, hk⟩ := ih (rnd A B T m d) (by omega)
      refine ⟨k + 1, fun i hi => ?_⟩
      have := hk i hi
      rw [comm, comm] at this
      exact this
