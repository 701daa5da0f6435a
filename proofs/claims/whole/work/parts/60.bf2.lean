/-! ===== the rounds of shortening, at rest: what they tell ===== -/
theorem rlx_cong {a b t n : Nat} {d e : Nat → Nat} (ha : a < n) (hb : b < n) (hab : a ≠ b) (h : ∀ i, i < n → d i = e i) (i : Nat) (hi : i < n) : rlx a b t d i = rlx a b t e i := by
  by_cases c1 : i = a
  · rw [c1, rlx_a hab, rlx_a hab, h a ha, h b hb]
  · by_cases c2 : i = b
    · rw [c2, rlx_b hab, rlx_b hab, h a ha, h b hb]
    · rw [rlx_n c1 c2, rlx_n c1 c2, h i hi]
theorem rnd_cong {A B T : Nat → Nat} {m n : Nat} {d e : Nat → Nat} (hn : ∀ p, p < m → A p < n ∧ B p < n ∧ A p ≠ B p) (h : ∀ i, i < n → d i = e i) : ∀ i, i < n → rnd A B T m d i = rnd A B T m e i := by
  induction m with
  | zero => exact h
  | succ m ih =>
    have hm := hn m (by omega)
    intro i hi
    exact rlx_cong hm.1 hm.2.1 hm.2.2 (ih (fun p hp => hn p (by omega))) i hi
theorem rnds_cong {A B T : Nat → Nat} {m n : Nat} {d e : Nat → Nat} (hn : ∀ p, p < m → A p < n ∧ B p < n ∧ A p ≠ B p) (h : ∀ i, i < n → d i = e i) (k : Nat) : ∀ i, i < n → rnds A B T m k d i = rnds A B T m k e i := by
  induction k with
  | zero => exact h
  | succ k ih => exact rnd_cong hn ih
theorem rnd_stable {A B T : Nat → Nat} {m n : Nat} {d : Nat → Nat} (hn : ∀ p, p < m → A p < n ∧ B p < n ∧ A p ≠ B p) (h : ∀ i, i < n → rnd A B T m d i = d i) : Low A B T m d := by
  induction m with
  | zero => intro p hp; omega
  | succ m ih =>
    have hm := hn m (by omega)
    have hab : ∀ p, p < m → A p ≠ B p := fun p hp => (hn p (by omega)).2.2
    have le := rnd_le (T := T) hab d
    have e : ∀ i, i < n → rnd A B T m d i = d i := by
      intro i hi
      have h1 := h i hi
      have h2 : rnd A B T (m + 1) d i ≤ rnd A B T m d i := rlx_le hm.2.2 i
      have h3 := le i
      omega
    have hl := ih (fun p hp => hn p (by omega)) e
    intro p hp
    by_cases c : p < m
    · exact hl p c
    · obtain rfl : p = m := by omega
      have ea' := e (A p) hm.1
      have eb := e (B p) hm.2.1
      have h1 : rlx (A p) (B p) (T p) (rnd A B T p d) (A p) = d (A p) := h (A p) hm.1
      have h2 : rlx (A p) (B p) (T p) (rnd A B T p d) (B p) = d (B p) := h (B p) hm.2.1
      rw [rlx_a hm.2.2] at h1
      rw [rlx_b hm.2.2] at h2
      omega
def Sup (A B T : Nat → Nat) (m n g inf : Nat) (d : Nat → Nat) : Prop := ∀ r, r < n → r ≠ g → d r < inf → ∃ p o, p < m ∧ o < n ∧ ((A p = r ∧ B p = o) ∨ (A p = o ∧ B p = r)) ∧ d o + T p ≤ d r
theorem rlx_sup {A B T : Nat → Nat} {m n g inf q : Nat} {d : Nat → Nat} (hq : q < m) (hm : A q < n ∧ B q < n ∧ A q ≠ B q) (h : Sup A B T m n g inf d) : Sup A B T m n g inf (rlx (A q) (B q) (T q) d) := by
  have le := rlx_le (t := T q) (d := d) hm.2.2
  intro r hr hrg hi
  have old : rlx (A q) (B q) (T q) d r = d r → ∃ p o, p < m ∧ o < n ∧ ((A p = r ∧ B p = o) ∨ (A p = o ∧ B p = r)) ∧ rlx (A q) (B q) (T q) d o + T p ≤ rlx (A q) (B q) (T q) d r := by
    intro e
    obtain ⟨p, o, h1, h2, h3, h4⟩ := h r hr hrg (by omega)
    have := le o
    exact ⟨p, o, h1, h2, h3, by omega⟩
  by_cases c1 : r = A q
  · subst c1
    have ra := rlx_a (t := T q) (d := d) hm.2.2
    by_cases z : d (A q) ≤ d (B q) + T q
    · exact old (by omega)
    · have := le (B q)
      exact ⟨q, B q, hq, hm.2.1, Or.inl ⟨rfl, rfl⟩, by omega⟩
  · by_cases c2 : r = B q
    · subst c2
      have ra := rlx_a (t := T q) (d := d) hm.2.2
      have rb := rlx_b (t := T q) (d := d) hm.2.2
      by_cases z : d (B q) ≤ min (d (A q)) (d (B q) + T q) + T q
      · exact old (by omega)
      · exact ⟨q, A q, hq, hm.1, Or.inr ⟨rfl, rfl⟩, by omega⟩
    · exact old (rlx_n c1 c2)
theorem rnd_sup {A B T : Nat → Nat} {m n g inf : Nat} {d : Nat → Nat} (hn : ∀ p, p < m → A p < n ∧ B p < n ∧ A p ≠ B p) (h : Sup A B T m n g inf d) (k : Nat) (hk : k ≤ m) : Sup A B T m n g inf (rnd A B T k d) := by
  induction k with
  | zero => exact h
  | succ k ih => exact rlx_sup (by omega) (hn k (by omega)) (ih (by omega))
theorem rnds_sup {A B T : Nat → Nat} {m n g inf : Nat} {d : Nat → Nat} (hn : ∀ p, p < m → A p < n ∧ B p < n ∧ A p ≠ B p) (h : Sup A B T m n g inf d) (k : Nat) : Sup A B T m n g inf (rnds A B T m k d) := by
  induction k with
  | zero => exact h
  | succ k ih => exact rnd_sup hn ih m (Nat.le_refl _)
def i0 (g v : Nat) : Nat → Nat := fun i => if i = g then 0 else v
theorem i0_g {g v : Nat} : i0 g v g = 0 := if_pos rfl
theorem i0_le {g v i : Nat} : i0 g v i ≤ v := by unfold i0; split <;> omega
theorem i0_sup {A B T : Nat → Nat} {m n g inf : Nat} : Sup A B T m n g inf (i0 g inf) := by
  intro r hr hrg hi
  unfold i0 at hi
  rw [if_neg hrg] at hi
  omega
theorem fin_le {A B T : Nat → Nat} {m n g inf : Nat} {L : Nat → Nat} (hT : ∀ p, p < m → 1 ≤ T p ∧ T p ≤ 108) (hR : Rest A B T m n g inf L) (N : Nat) : ∀ r, r < n → L r < inf → cntL L (L r) n ≤ N → L r ≤ 108 * N := by
  induction N with
  | zero =>
    intro r hr hi hc
    by_cases hrg : r = g
    · rw [hrg, hR.1]
      omega
    · obtain ⟨p, o, hp, ho, -, e⟩ := hR.2.2 r hr hrg hi
      have := hT p hp
      have := cntL_lt L (v := L o) (w := L r) (o := o) (Nat.le_refl _) (by omega) n ho
      omega
  | succ N ih =>
    intro r hr hi hc
    by_cases hrg : r = g
    · rw [hrg, hR.1]
      omega
    · obtain ⟨p, o, hp, ho, -, e⟩ := hR.2.2 r hr hrg hi
      have := hT p hp
      have := cntL_lt L (v := L o) (w := L r) (o := o) (Nat.le_refl _) (by omega) n ho
      have := ih o ho (by omega) (by omega)
      omega
def fx (v : Nat) : Nat := if v < 1000000 then v else 268435456
/-- the rounds tell: all that is needed of them -/
theorem dist_all {A B T : Nat → Nat} {m n g : Nat} (hn5 : n ≤ 5) (hg : g < n) (hn : ∀ p, p < m → A p < n ∧ B p < n ∧ A p ≠ B p) (hT : ∀ p, p < m → 1 ≤ T p ∧ T p ≤ 108) : (∀ i, i < n → rnds A B T m (n - 1) (i0 g 1000000) i ≤ 432 ∨ rnds A B T m (n - 1) (i0 g 1000000) i = 1000000) ∧ Rest A B T m n g 1000000 (rnds A B T m (n - 1) (i0 g 1000000)) ∧ ∀ i, i < n → rnds A B T m n (i0 g 268435456) i = fx (rnds A B T m (n - 1) (i0 g 1000000) i) := by
  have hab : ∀ p, p < m → A p ≠ B p := fun p hp => (hn p hp).2.2
  have hT1 : ∀ p, p < m → 1 ≤ T p := fun p hp => (hT p hp).1
  obtain ⟨k, hk⟩ := stable_ex (T := T) hab n (sumD (i0 g 1000000) n) (i0 g 1000000) (Nat.le_refl _)
  let L : Nat → Nat := fun i => if i < n then rnds A B T m k (i0 g 1000000) i else 0
  have Ln : ∀ i, i < n → L i = rnds A B T m k (i0 g 1000000) i := fun i hi => if_pos hi
  have Lo : ∀ i, ¬ i < n → L i = 0 := fun i hi => if_neg hi
  have le0 : ∀ j i, rnds A B T m j (i0 g 1000000) i ≤ i0 g 1000000 i := fun j i => by
    have := rnds_le (T := T) hab (i0 g 1000000) 0 j i
    rw [Nat.zero_add] at this
    exact this
  have Lle : ∀ i, L i ≤ i0 g 1000000 i := fun i => by
    by_cases c : i < n
    · rw [Ln i c]
      exact le0 k i
    · rw [Lo i c]
      exact Nat.zero_le _
  have Lg : L g = 0 := by
    have := Lle g
    rw [i0_g] at this
    omega
  have stab : Low A B T m (rnds A B T m k (i0 g 1000000)) := rnd_stable hn hk
  have low : Low A B T m L := by
    intro p hp
    have hm := hn p hp
    rw [Ln _ hm.1, Ln _ hm.2.1]
    exact stab p hp
  have sup := rnds_sup hn (i0_sup (A := A) (B := B) (T := T) (m := m) (n := n) (g := g) (inf := 1000000)) k
  have rest : Rest A B T m n g 1000000 L := by
    refine ⟨Lg, low, fun r hr hrg hi => ?_⟩
    rw [Ln r hr] at hi
    obtain ⟨p, o, hp, ho, he, h4⟩ := sup r hr hrg hi
    refine ⟨p, o, hp, ho, he, ?_⟩
    have lp := low p hp
    rw [← Ln r hr, ← Ln o ho] at h4
    rcases he with ⟨e1, e2⟩ | ⟨e1, e2⟩
    · rw [e1, e2] at lp
      omega
    · rw [e1, e2] at lp
      omega
  have fin : ∀ r, r < n → L r < 1000000 → L r ≤ 432 := by
    intro r hr hi
    have c := cntL_r L r n hr
    have := fin_le hT rest (n - 1) r hr hi c
    omega
  have eqL : ∀ i, i < n → rnds A B T m (n - 1) (i0 g 1000000) i = L i := by
    intro i hi
    by_cases c : L i < 1000000
    · exact settled hab hT1 rest Lle i0_g (n - 1) i hi c (cntL_r L i n hi)
    · have h1 := rnds_low hab low Lle (n - 1) i
      have h2 := le0 (n - 1) i
      have h3 := Lle i
      have h4 : i0 g 1000000 i ≤ 1000000 := i0_le
      omega
  refine ⟨fun i hi => ?_, ⟨?_, ?_, fun r hr hrg hi => ?_⟩, fun i hi => ?_⟩
  · rw [eqL i hi]
    by_cases c : L i < 1000000
    · exact Or.inl (fin i hi c)
    · have h3 := Lle i
      have h4 : i0 g 1000000 i ≤ 1000000 := i0_le
      omega
  · rw [eqL g hg]
    exact Lg
  · intro p hp
    have hm := hn p hp
    rw [eqL _ hm.1, eqL _ hm.2.1]
    exact low p hp
  · rw [eqL r hr] at hi ⊢
    obtain ⟨p, o, hp, ho, he, h4⟩ := rest.2.2 r hr hrg hi
    refine ⟨p, o, hp, ho, he, ?_⟩
    rw [eqL o ho]
    exact h4
  · rw [eqL i hi]
    have le2 : ∀ j i, rnds A B T m j (i0 g 268435456) i ≤ i0 g 268435456 i := fun j i => by
      have := rnds_le (T := T) hab (i0 g 268435456) 0 j i
      rw [Nat.zero_add] at this
      exact this
    by_cases c : L i < 1000000
    · have Lle2 : ∀ i, L i ≤ i0 g 268435456 i := fun i => by
        have h := Lle i
        unfold i0 at h ⊢
        split
        · rename_i z
          rw [if_pos z] at h
          exact h
        · rename_i z
          rw [if_neg z] at h
          omega
      have hc := cntL_r L i n hi
      rw [settled hab hT1 rest Lle2 i0_g n i hi c (by omega)]
      unfold fx
      rw [if_pos c]
    · let L2 : Nat → Nat := fun i => if L i < 1000000 then L i else if i < n then 268435456 else 0
      have L2f : ∀ i, L i < 1000000 → L2 i = L i := fun i hi => if_pos hi
      have L2i : ∀ i, i < n → ¬ L i < 1000000 → L2 i = 268435456 := fun i hi h => by
        show (if L i < 1000000 then L i else if i < n then 268435456 else 0) = _
        rw [if_neg h, if_pos hi]
      have low2 : Low A B T m L2 := by
        intro p hp
        have hm := hn p hp
        have lp := low p hp
        have tp := hT p hp
        by_cases ca : L (A p) < 1000000
        · have fa := fin _ hm.1 ca
          rw [L2f _ ca, L2f _ (by omega)]
          exact lp
        · have cb : ¬ L (B p) < 1000000 := by
            intro cb
            have fb := fin _ hm.2.1 cb
            omega
          rw [L2i _ hm.1 ca, L2i _ hm.2.1 cb]
          omega
      have L2le : ∀ i, L2 i ≤ i0 g 268435456 i := fun i => by
        by_cases ci : L i < 1000000
        · rw [L2f i ci]
          have h := Lle i
          unfold i0 at h ⊢
          split
          · rename_i z
            rw [if_pos z] at h
            exact h
          · omega
        · have zi : i ≠ g := fun q => ci (by rw [q, Lg]; decide)
          have e : i0 g 268435456 i = 268435456 := if_neg zi
          rw [e]
          show (if L i < 1000000 then L i else if i < n then 268435456 else 0) ≤ _
          rw [if_neg ci]
          split <;> omega
      have h1 := rnds_low hab low2 L2le n i
      have h2 := le2 n i
      have h4 : i0 g 268435456 i ≤ 268435456 := i0_le
      rw [L2i i hi c] at h1
      unfold fx
      rw [if_neg c]
      omega
/-- as far there as back -/
theorem dist_tri {A B T : Nat → Nat} {m n g : Nat} {L K : Nat → Nat} (hT : ∀ p, p < m → 1 ≤ T p) (hL : Rest A B T m n g 1000000 L) (hK : Low A B T m K) (N : Nat) : ∀ x, x < n → L x < 1000000 → L x ≤ N → K g ≤ L x + K x := by
  induction N with
  | zero =>
    intro x hx hi hc
    by_cases hxg : x = g
    · rw [hxg]; omega
    · obtain ⟨p, o, hp, ho, -, e⟩ := hL.2.2 x hx hxg hi
      have := hT p hp
      omega
  | succ N ih =>
    intro x hx hi hc
    by_cases hxg : x = g
    · rw [hxg]; omega
    · obtain ⟨p, o, hp, ho, he, e⟩ := hL.2.2 x hx hxg hi
      have := hT p hp
      have := ih o ho (by omega) (by omega)
      have kp := hK p hp
      rcases he with ⟨e1, e2⟩ | ⟨e1, e2⟩
      · rw [e1, e2] at kp
        omega
      · rw [e1, e2] at kp
        omega
theorem dist_sym {A B T : Nat → Nat} {m n g x : Nat} (hn5 : n ≤ 5) (hg : g < n) (hx : x < n) (hn : ∀ p, p < m → A p < n ∧ B p < n ∧ A p ≠ B p) (hT : ∀ p, p < m → 1 ≤ T p ∧ T p ≤ 108) : rnds A B T m (n - 1) (i0 g 1000000) x = rnds A B T m (n - 1) (i0 x 1000000) g := by
  obtain ⟨a1, a2, -⟩ := dist_all hn5 hg hn hT
  obtain ⟨b1, b2, -⟩ := dist_all hn5 hx hn hT
  have hT1 : ∀ p, p < m → 1 ≤ T p := fun p hp => (hT p hp).1
  have u1 := a1 x hx
  have u2 := b1 g hg
  have t1 := dist_tri hT1 a2 b2.2.1 1000000 x hx
  have t2 := dist_tri hT1 b2 a2.2.1 1000000 g hg
  rw [b2.1] at t1
  rw [a2.1] at t2
  by_cases c1 : rnds A B T m (n - 1) (i0 g 1000000) x < 1000000
  · have := t1 c1 (by omega)
    by_cases c2 : rnds A B T m (n - 1) (i0 x 1000000) g < 1000000
    · have := t2 c2 (by omega)
      omega
    · omega
  · by_cases c2 : rnds A B T m (n - 1) (i0 x 1000000) g < 1000000
    · have := t2 c2 (by omega)
      omega
    · omega
