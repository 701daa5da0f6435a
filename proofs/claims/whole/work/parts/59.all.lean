/-! ===== the fewest steps to a room: rounds of shortening come to rest ===== -/
def upN (d : Nat → Nat) (k v : Nat) : Nat → Nat := fun i => if i = k then v else d i
theorem upN_s {d : Nat → Nat} {k v : Nat} : upN d k v k = v := by simp [upN]
theorem upN_n {d : Nat → Nat} {k v i : Nat} (h : i ≠ k) : upN d k v i = d i := by simp [upN, h]
/-- one passage, both ways, as class and reference do it -/
def rlx (a b t : Nat) (d : Nat → Nat) : Nat → Nat := upN (upN d a (min (d a) (d b + t))) b (min (upN d a (min (d a) (d b + t)) b) (upN d a (min (d a) (d b + t)) a + t))
def rnd (A B T : Nat → Nat) : Nat → (Nat → Nat) → (Nat → Nat)
  | 0, d => d
  | m + 1, d => rlx (A m) (B m) (T m) (rnd A B T m d)
def rnds (A B T : Nat → Nat) (m : Nat) : Nat → (Nat → Nat) → (Nat → Nat)
  | 0, d => d
  | k + 1, d => rnd A B T m (rnds A B T m k d)
theorem rlx_a {a b t : Nat} {d : Nat → Nat} (h : a ≠ b) : rlx a b t d a = min (d a) (d b + t) := by
  unfold rlx
  rw [upN_n h, upN_s]
theorem rlx_b {a b t : Nat} {d : Nat → Nat} (h : a ≠ b) : rlx a b t d b = min (d b) (min (d a) (d b + t) + t) := by
  unfold rlx
  rw [upN_s, upN_n (Ne.symm h), upN_s]
theorem rlx_n {a b t i : Nat} {d : Nat → Nat} (h1 : i ≠ a) (h2 : i ≠ b) : rlx a b t d i = d i := by
  unfold rlx
  rw [upN_n h2, upN_n h1]
theorem rlx_le {a b t : Nat} {d : Nat → Nat} (h : a ≠ b) (i : Nat) : rlx a b t d i ≤ d i := by
  by_cases h1 : i = a
  · subst h1
    rw [rlx_a h]
    omega
  · by_cases h2 : i = b
    · subst h2
      rw [rlx_b h]
      omega
    · rw [rlx_n h1 h2]
      exact Nat.le_refl _
theorem rnd_le {A B T : Nat → Nat} {m : Nat} (h : ∀ p, p < m → A p ≠ B p) (d : Nat → Nat) (i : Nat) : rnd A B T m d i ≤ d i := by
  induction m with
  | zero => exact Nat.le_refl _
  | succ m ih => exact Nat.le_trans (rlx_le (h m (by omega)) i) (ih (fun p hp => h p (by omega)))
theorem rnds_le {A B T : Nat → Nat} {m : Nat} (h : ∀ p, p < m → A p ≠ B p) (d : Nat → Nat) (k j i : Nat) : rnds A B T m (k + j) d i ≤ rnds A B T m k d i := by
  induction j with
  | zero => exact Nat.le_refl _
  | succ j ih => exact Nat.le_trans (rnd_le h _ i) ih
/-- a lower bound that every passage keeps -/
def Low (A B T : Nat → Nat) (m : Nat) (L : Nat → Nat) : Prop := ∀ p, p < m → L (A p) ≤ L (B p) + T p ∧ L (B p) ≤ L (A p) + T p
theorem rlx_low {a b t : Nat} {d L : Nat → Nat} (hab : a ≠ b) (h : ∀ i, L i ≤ d i) (h1 : L a ≤ L b + t) (h2 : L b ≤ L a + t) (i : Nat) : L i ≤ rlx a b t d i := by
  have ha := h a
  have hb := h b
  by_cases c1 : i = a
  · subst c1
    rw [rlx_a hab]
    omega
  · by_cases c2 : i = b
    · subst c2
      rw [rlx_b hab]
      omega
    · rw [rlx_n c1 c2]
      exact h i
theorem rnd_low {A B T : Nat → Nat} {m : Nat} {L d : Nat → Nat} (hab : ∀ p, p < m → A p ≠ B p) (hL : Low A B T m L) (h : ∀ i, L i ≤ d i) (i : Nat) : L i ≤ rnd A B T m d i := by
  induction m generalizing i with
  | zero => exact h i
  | succ m ih => exact rlx_low (hab m (by omega)) (ih (fun p hp => hab p (by omega)) (fun p hp => hL p (by omega))) (hL m (by omega)).1 (hL m (by omega)).2 i
theorem rnds_low {A B T : Nat → Nat} {m : Nat} {L d : Nat → Nat} (hab : ∀ p, p < m → A p ≠ B p) (hL : Low A B T m L) (h : ∀ i, L i ≤ d i) (k i : Nat) : L i ≤ rnds A B T m k d i := by
  induction k generalizing i with
  | zero => exact h i
  | succ k ih => exact rnd_low hab hL ih i
/-- a round that meets a settled end settles the other end -/
theorem rnd_set {A B T : Nat → Nat} {m : Nat} {L d : Nat → Nat} (hab : ∀ p, p < m → A p ≠ B p) (hL : Low A B T m L) (h : ∀ i, L i ≤ d i) (p : Nat) (hp : p < m) (o r : Nat) (he : (A p = r ∧ B p = o) ∨ (A p = o ∧ B p = r)) (ho : d o = L o) (hr : L r = L o + T p) : rnd A B T m d r = L r := by
  induction m with
  | zero => omega
  | succ m ih =>
    have hab' : ∀ p, p < m → A p ≠ B p := fun p hp => hab p (by omega)
    have hL' : Low A B T m L := fun p hp => hL p (by omega)
    have low := rnd_low hab' hL' h
    have le := rnd_le (T := T) hab' d
    have low2 := rnd_low hab hL h
    have abm := hab m (by omega)
    show rlx (A m) (B m) (T m) (rnd A B T m d) r = L r
    by_cases hpm : p < m
    · have e := ih hab' hL' hpm
      have a1 := rlx_le (t := T m) (d := rnd A B T m d) abm r
      have a2 : L r ≤ rlx (A m) (B m) (T m) (rnd A B T m d) r := low2 r
      omega
    · have : p = m := by omega
      subst this
      have lo := low o
      have leo := le o
      have a2 : L r ≤ rlx (A p) (B p) (T p) (rnd A B T p d) r := low2 r
      rcases he with ⟨e1, e2⟩ | ⟨e1, e2⟩
      · subst e1
        subst e2
        rw [rlx_a abm] at a2 ⊢
        omega
      · subst e1
        subst e2
        rw [rlx_b abm] at a2 ⊢
        omega
/-- how many of the first n have less than v -/
def cntL (L : Nat → Nat) (v : Nat) : Nat → Nat
  | 0 => 0
  | n + 1 => cntL L v n + (if L n < v then 1 else 0)
theorem cntL_le (L : Nat → Nat) (v n : Nat) : cntL L v n ≤ n := by
  induction n with
  | zero => exact Nat.le_refl _
  | succ n ih =>
    show cntL L v n + _ ≤ n + 1
    split <;> omega
theorem cntL_mono (L : Nat → Nat) {v w : Nat} (h : v ≤ w) (n : Nat) : cntL L v n ≤ cntL L w n := by
  induction n with
  | zero => exact Nat.le_refl _
  | succ n ih =>
    show cntL L v n + (if L n < v then 1 else 0) ≤ cntL L w n + (if L n < w then 1 else 0)
    by_cases c : L n < v
    · rw [if_pos c, if_pos (by omega)]
      omega
    · rw [if_neg c]
      omega
theorem cntL_lt (L : Nat → Nat) {v w o : Nat} (h : v ≤ L o) (h2 : L o < w) (n : Nat) (ho : o < n) : cntL L v n < cntL L w n := by
  induction n with
  | zero => omega
  | succ n ih =>
    show cntL L v n + (if L n < v then 1 else 0) < cntL L w n + (if L n < w then 1 else 0)
    by_cases c : o < n
    · have := ih c
      by_cases c2 : L n < v
      · rw [if_pos c2, if_pos (by omega)]
        omega
      · rw [if_neg c2]
        omega
    · have : o = n := by omega
      subst this
      have := cntL_mono L (show v ≤ w by omega) o
      rw [if_neg (by omega), if_pos h2]
      omega
theorem cntL_r (L : Nat → Nat) (r n : Nat) (hr : r < n) : cntL L (L r) n ≤ n - 1 := by
  have h := cntL_lt L (v := L r) (w := L r + 1) (o := r) (Nat.le_refl _) (by omega) n hr
  have := cntL_le L (L r + 1) n
  omega
/-- what holds at rest: the goal has 0, every passage keeps to it, every other room that can be come from has a passage that tells its steps -/
def Rest (A B T : Nat → Nat) (m n g inf : Nat) (L : Nat → Nat) : Prop := L g = 0 ∧ Low A B T m L ∧ ∀ r, r < n → r ≠ g → L r < inf → ∃ p o, p < m ∧ o < n ∧ ((A p = r ∧ B p = o) ∨ (A p = o ∧ B p = r)) ∧ L r = L o + T p
theorem settled {A B T : Nat → Nat} {m n g inf : Nat} {L d : Nat → Nat} (hab : ∀ p, p < m → A p ≠ B p) (hT : ∀ p, p < m → 1 ≤ T p) (hR : Rest A B T m n g inf L) (h : ∀ i, L i ≤ d i) (hg : d g = 0) (k : Nat) : ∀ r, r < n → L r < inf → cntL L (L r) n ≤ k → rnds A B T m k d r = L r := by
  have low := fun k => rnds_low hab hR.2.1 h k
  have g0 : ∀ k, rnds A B T m k d g = 0 := fun k => by
    have := rnds_le (T := T) hab d 0 k g
    rw [Nat.zero_add] at this
    have h0 : rnds A B T m 0 d g = 0 := hg
    omega
  induction k with
  | zero =>
    intro r hr hi hc
    by_cases hrg : r = g
    · subst hrg
      rw [hR.1]
      exact hg
    · obtain ⟨p, o, hp, ho, -, e⟩ := hR.2.2 r hr hrg hi
      have := hT p hp
      have := cntL_lt L (v := L o) (w := L r) (o := o) (Nat.le_refl _) (by omega) n ho
      omega
  | succ k ih =>
    intro r hr hi hc
    by_cases hrg : r = g
    · subst hrg
      rw [hR.1]
      exact g0 (k + 1)
    · obtain ⟨p, o, hp, ho, he, e⟩ := hR.2.2 r hr hrg hi
      have := hT p hp
      have := cntL_lt L (v := L o) (w := L r) (o := o) (Nat.le_refl _) (by omega) n ho
      exact rnd_set hab hR.2.1 (low k) p hp o r he (ih o ho (by omega) (by omega)) e
/-- rounds come to rest -/
def sumD (d : Nat → Nat) : Nat → Nat
  | 0 => 0
  | n + 1 => sumD d n + d n
theorem sumD_le {d e : Nat → Nat} (h : ∀ i, e i ≤ d i) (n : Nat) : sumD e n ≤ sumD d n := by
  induction n with
  | zero => exact Nat.le_refl _
  | succ n ih => exact Nat.add_le_add ih (h n)
theorem sumD_eq {d e : Nat → Nat} (h : ∀ i, e i ≤ d i) (n : Nat) (hs : sumD d n ≤ sumD e n) : ∀ i, i < n → e i = d i := by
  induction n with
  | zero => intro i hi; omega
  | succ n ih =>
    intro i hi
    have h1 := sumD_le h n
    have h2 := h n
    have hs' : sumD d n + d n ≤ sumD e n + e n := hs
    by_cases c : i < n
    · exact ih (by omega) i c
    · have : i = n := by omega
      subst this
      omega
theorem stable_ex {A B T : Nat → Nat} {m : Nat} (hab : ∀ p, p < m → A p ≠ B p) (n : Nat) (c : Nat) : ∀ d : Nat → Nat, sumD d n ≤ c → ∃ k, ∀ i, i < n → rnds A B T m (k + 1) d i = rnds A B T m k d i := by
  have comm : ∀ (k : Nat) (d : Nat → Nat), rnds A B T m k (rnd A B T m d) = rnds A B T m (k + 1) d := by
    intro k
    induction k with
    | zero => intro d; rfl
    | succ k ih =>
      intro d
      show rnd A B T m (rnds A B T m k (rnd A B T m d)) = rnd A B T m (rnds A B T m (k + 1) d)
      rw [ih]
  induction c with
  | zero =>
    intro d hd
    refine ⟨0, fun i hi => ?_⟩
    exact sumD_eq (rnd_le hab d) n (by omega) i hi
  | succ c ih =>
    intro d hd
    by_cases hs : sumD d n ≤ sumD (rnd A B T m d) n
    · exact ⟨0, fun i hi => sumD_eq (rnd_le hab d) n hs i hi⟩
    · obtain ⟨k, hk⟩ := ih (rnd A B T m d) (by omega)
      refine ⟨k + 1, fun i hi => ?_⟩
      have := hk i hi
      rw [comm, comm] at this
      exact this
/-! ===== rules for reading; loops; the page; who goes ===== -/
theorem re_ {x y : Int32} {A B : Prop} (a b : Nat) (f : a ≠ b → A) (g : a = b → B) (hx : x = nI a := by rfl) (hy : y = nI b := by rfl) (ha : a < 2 ^ 31 := by omega) (hb : b < 2 ^ 31 := by omega) : (¬ x = y → A) ∧ (x = y → B) :=
  have h := pk_eq (A := B) (B := A) a b g f hx hy ha hb
  ⟨h.2, h.1⟩
theorem rl_ {x y : Int32} {A B : Prop} (a b : Nat) (f : b < a → A) (g : a ≤ b → B) (hx : x = nI a := by rfl) (hy : y = nI b := by rfl) (ha : a < 2 ^ 31 := by omega) (hb : b < 2 ^ 31 := by omega) : (¬ x ≤ y → A) ∧ (x ≤ y → B) :=
  have h := pk_le (A := B) (B := A) a b g f hx hy ha hb
  ⟨h.2, h.1⟩
theorem upf_comm {f : Nat → Nat → Nat} {j1 i1 v1 j2 i2 v2 : Nat} (h : j1 ≠ j2) : upf (upf f j1 i1 v1) j2 i2 v2 = upf (upf f j2 i2 v2) j1 i1 v1 := by
  funext a b
  unfold upf
  by_cases c1 : a = j2 ∧ b = i2
  · have : ¬ (a = j1 ∧ b = i1) := fun q => h (q.1.symm.trans c1.1)
    simp [c1, this]
    omega
  · by_cases c2 : a = j1 ∧ b = i1
    · simp [c1, c2]
    · simp [c1, c2]
theorem KpR.cg {MX MM MX1 MM1 : Mm} {s s1 : Nat → Nat} {f f1 : Nat → Nat → Nat} {cr : Nat} (h6 : KpR MX MM s f cr) (e0 : s1 0 = s 0 ∧ s1 1 = s 1 ∧ s1 2 = s 2) (ef : ∀ i, f1 0 i = f 0 i ∧ f1 1 i = f 1 i ∧ f1 3 i = f 3 i) (x0 : MX1.1 0 6 = MX.1 0 6) (oX : ∀ n, 22 ≤ n → n < 41 → MX1.1 n = MX.1 n) (oM0 : ∀ j, j = 35 ∨ j = 36 ∨ j = 37 ∨ j = 38 → MM1.1 0 j = MM.1 0 j) (oM : ∀ n, 24 ≤ n → n ≤ 32 → MM1.1 n = MM.1 n) : KpR MX1 MM1 s1 f1 cr := by
  unfold KpR at h6 ⊢
  rw [x0, oM0 35 (by omega), oM0 36 (by omega)]
  rcases h6 with h6 | ⟨g1, g2, g3, s2, f2, g4, g5, g6, g7, g8, g9⟩
  · exact Or.inl h6
  · refine Or.inr ⟨g1, g2, g3, s2, f2, g4.cg (fun n a b => oX n (by omega) (by omega)), ?_, g6, ⟨by rw [g7.1, e0.1], by rw [g7.2.1, e0.2.1], by rw [g7.2.2, e0.2.2]⟩, fun i hi => ⟨by rw [(g8 i hi).1, (ef i).1], by rw [(g8 i hi).2, (ef i).2.1]⟩, fun i hi => by rw [g9 i hi, (ef i).2.2]⟩
    obtain ⟨k1, k2, k3, k4⟩ := g5
    refine ⟨⟨by rw [oM0 37 (by omega)]; exact k1.1, by rw [oM0 38 (by omega)]; exact k1.2⟩, fun i hi => by rw [oM 24 (by omega) (by omega)]; exact k2 i hi, fun i hi => by rw [oM 25 (by omega) (by omega), oM 26 (by omega) (by omega), oM 27 (by omega) (by omega), oM 28 (by omega) (by omega)]; exact k3 i hi, fun i hi => by rw [oM 29 (by omega) (by omega), oM 30 (by omega) (by omega), oM 31 (by omega) (by omega), oM 32 (by omega) (by omega)]; exact k4 i hi⟩
theorem nb8 {c : Nat} (h : c < 128) : (nI c).toInt8.toInt32 = nI c := by
  have g : ∀ c : Fin 128, (nI c.1).toInt8.toInt32 = nI c.1 := by decide +kernel
  exact g ⟨c, h⟩
theorem inR {x : Int32} {lo hi : Nat} (hh : hi < 2 ^ 31) (h1 : ¬ x < nI lo) (h2 : x ≤ nI hi) (hl : lo ≤ hi) : ∃ n : Nat, lo ≤ n ∧ n ≤ hi ∧ x = nI n := by
  rw [Int32.lt_iff_toInt_lt, nI_toInt (by omega)] at h1
  rw [Int32.le_iff_toInt_le, nI_toInt (by omega)] at h2
  refine ⟨x.toInt.toNat, by omega, by omega, ?_⟩
  apply Int32.toInt_inj.mp
  rw [nI_toInt (by omega)]
  omega
theorem sim_letter (k : Nat) (MX MM : Mm) (x1 : Int32) (hk : k < 512) (hR : Rel k MX MM) : w_X11_letter x1 MX (fun r MX1 => w_X12_letter x1 MM (fun r1 MM1 => r = r1 ∧ Rel (k + 1) MX1 MM1)) := by
  have hR1 := hR.up
  obtain ⟨s, f, pn, pg, cr, cs, hX, hM, hV, ⟨p1, p2, p3, p4⟩, ⟨c1, c2, c3, c4, c5, c6⟩, h6⟩ := hR
  unfold w_X11_letter w_X12_letter
  refine ⟨fun q => sM_within (fun z _ => absurd q z) (fun _ => pn_0 ⟨rfl, hR1⟩), fun q => ⟨fun q2 => ?_, fun q2 => sM_within (fun _ z => absurd (le_nlt.mpr z) q2) (fun _ => pn_0 ⟨rfl, hR1⟩)⟩⟩
  obtain ⟨c, cl, ch, rfl⟩ := inR (lo := 32) (hi := 126) (by decide) q q2 (by decide)
  rw [p1]
  refine pk_lt pn 52 (fun q3 => ?_) (fun q3 => ?_)
  · unfold w_X5_append
    rw [p1]
    refine pb_f (fun z => nI_ge (a := pn) (b := 52) q3 (by decide) z) ⟨vp_i (by omega) (by decide), fun M3 e3 M5 e5 => ?_⟩
    refine sM_within (fun _ _ => pn_1 ?_) (fun z => ?_)
    · rw [p2]
      refine re_ pn 52 (fun q4 => ⟨vp_i (by omega) (by decide), fun M7 e7 M9 e9 => ?_⟩) (fun q4 => absurd q4 (by omega))
      rw [cl_i (by omega)] at e3 e7
      rw [pk_vb, nb8 (by omega)] at e7
      have a1 : M5.1 1 1 = nI (pn + 1) := by rw [e5, wI_same, pk_us, e3, wI_ne _ _ (by decide), p1, nI_1]
      have a2 : M9.1 0 19 = nI (pn + 1) := by rw [e9, wI_same, pk_us, e7, wI_ne _ _ (by decide), p2, nI_1]
      have b0 : ∀ n, n ≠ 1 → n ≠ 2 → M5.1 n = MX.1 n := fun n h1 h2 => by rw [e5, wI_ne _ _ h1, e3, wI_ne _ _ h2]
      have b1 : ∀ n, n ≠ 0 → n ≠ 13 → M9.1 n = MM.1 n := fun n h1 h2 => by rw [e9, wI_ne _ _ h1, e7, wI_ne _ _ h2]
      have b2 : ∀ j, j ≠ 19 → M9.1 0 j = MM.1 0 j := fun j hj => by rw [e9, wI_same, pk_un hj, e7, wI_ne _ _ (by decide)]
      have b3 : M5.1 2 = upd (MX.1 2) pn (nI c) := by rw [e5, wI_ne _ _ (by decide), e3, wI_same]
      have b4 : M9.1 13 = upd (MM.1 13) pn (nI c) := by rw [e9, wI_ne _ _ (by decide), e7, wI_same]
      refine ⟨a1.trans a2.symm, s, f, pn + 1, fun i => if i = pn then c else pg i, cr, cs, hX.cg (fun n g1 g2 => b0 n (by omega) (by omega)), hM.cg (fun j hj => b2 j (by omega)) (fun n g1 g2 => b1 n (by omega) (by omega)), hV, ⟨a1, a2, by omega, fun i hi => ?_⟩, ⟨by rw [b0 0 (by decide) (by decide)]; exact c1, by rw [b2 0 (by decide)]; exact c2, by omega, by rw [b0 0 (by decide) (by decide)]; exact c4, by rw [b2 13 (by decide)]; exact c5, c6⟩, h6.cg ⟨rfl, rfl, rfl⟩ (fun _ => ⟨rfl, rfl, rfl⟩) (by rw [b0 0 (by decide) (by decide)]) (fun n g1 g2 => b0 n (by omega) (by omega)) (fun j hj => b2 j (by omega)) (fun n g1 g2 => b1 n (by omega) (by omega))⟩
      rw [b3, b4]
      by_cases z : i = pn
      · rw [if_pos z, z, pk_us, pk_us]
        exact ⟨rfl, rfl, by omega, by omega⟩
      · rw [if_neg z, pk_un z, pk_un z]
        exact p4 i (by omega)
    · rcases z with z | z
      · exact absurd z q
      · exact absurd z (le_nlt.mp q2)
  · refine sM_within (fun _ _ => pn_1 ?_) (fun z => ?_)
    · rw [p2]
      exact re_ pn 52 (fun q4 => absurd (show pn = 52 by omega) q4) (fun q4 => ⟨rfl, hR1⟩)
    · rcases z with z | z
      · exact absurd z q
      · exact absurd z (le_nlt.mp q2)
theorem sim_blank (k : Nat) (MX MM : Mm) (hk : k < 512) (hR : Rel k MX MM) : w_X11_blank MX (fun r MX1 => w_X12_blank MM (fun r1 MM1 => r = r1 ∧ Rel (k + 1) MX1 MM1)) := by
  obtain ⟨s, f, pn, pg, cr, cs, hX, hM, hV, ⟨p1, p2, p3, p4⟩, ⟨c1, c2, c3, c4, c5, c6⟩, h6⟩ := hR
  unfold w_X11_blank w_X12_blank
  intro M5 e5 M9 e9
  have b0 : ∀ n, n ≠ 1 → M5.1 n = MX.1 n := fun n h1 => by rw [e5, wI_ne _ _ h1]
  have b1 : ∀ n, n ≠ 0 → M9.1 n = MM.1 n := fun n h1 => by rw [e9, wI_ne _ _ h1]
  have b2 : ∀ j, j ≠ 19 → M9.1 0 j = MM.1 0 j := fun j hj => by rw [e9, wI_same, pk_un hj]
  have a1 : M5.1 1 1 = nI 0 := by rw [e5, wI_same, pk_us]; rfl
  have a2 : M9.1 0 19 = nI 0 := by rw [e9, wI_same, pk_us]; rfl
  exact ⟨p1.trans p2.symm, s, f, 0, pg, cr, cs, hX.cg (fun n g1 g2 => b0 n (by omega)), hM.cg (fun j hj => b2 j (by omega)) (fun n g1 g2 => b1 n (by omega)), hV, ⟨a1, a2, by omega, fun i hi => absurd hi (by omega)⟩, ⟨by rw [b0 0 (by decide)]; exact c1, by rw [b2 0 (by decide)]; exact c2, by omega, by rw [b0 0 (by decide)]; exact c4, by rw [b2 13 (by decide)]; exact c5, c6⟩, h6.cg ⟨rfl, rfl, rfl⟩ (fun _ => ⟨rfl, rfl, rfl⟩) (by rw [b0 0 (by decide)]) (fun n g1 g2 => b0 n (by omega)) (fun j hj => b2 j (by omega)) (fun n g1 g2 => b1 n (by omega))⟩
/-! sums -/
def sumF (g : Nat → Nat) : Nat → Nat → Nat
  | _, 0 => 0
  | v, m + 1 => g v + sumF g (v + 1) m
theorem sX_sum {b rw N : Nat} {g : Nat → Nat} {M : Mm} {post : Int32 → Mm → Prop} (hN : M.1 b 3 = nI N) (h5 : N ≤ 5) (hg : ∀ i, i < N → M.1 rw i = nI (g i)) (h : post (nI (sumF g 0 N)) M) : w_X2_sumOfPeople b rw M post := by
  have key : ∀ m v acc, v + m = N → post (nI (acc + sumF g v m)) M → w_X2_sumOfPeople_4 b rw post (m + 1) (nI acc) (nI v) M := by
    intro m
    induction m with
    | zero =>
      intro v acc hv hp
      refine pk_le N v (fun _ => hp) (fun z => absurd z (by omega)) hN
    | succ m ih =>
      intro v acc hv hp
      refine pk_le N v (fun z => absurd z (by omega)) (fun _ => ⟨vp_i (by omega) (by decide), ?_⟩) hN
      rw [cl_i (by omega), hg v (by omega), nI_add, nI_1]
      refine ih (v + 1) (acc + g v) (by omega) ?_
      rw [Nat.add_assoc]
      exact hp
  refine ⟨N + 1, key N 0 0 (by omega) ?_⟩
  rw [Nat.zero_add]
  exact h
theorem sM_tookAll {N : Nat} {g : Nat → Nat} {M : Mm} {post : Int32 → Mm → Prop} (hN : M.1 0 3 = nI N) (h5 : N ≤ 5) (hg : ∀ i, i < N → M.1 8 i = nI (g i)) (h : post (nI (sumF g 0 N)) M) : w_X12_tookAll M post := by
  have key : ∀ m v acc, v + m = N → post (nI (acc + sumF g v m)) M → w_X12_tookAll_4 post (m + 1) (nI acc) (nI v) M := by
    intro m
    induction m with
    | zero =>
      intro v acc hv hp
      refine pk_le N v (fun _ => hp) (fun z => absurd z (by omega)) hN
    | succ m ih =>
      intro v acc hv hp
      refine pk_le N v (fun z => absurd z (by omega)) (fun _ => ⟨vp_i (by omega) (by decide), ?_⟩) hN
      rw [cl_i (by omega), hg v (by omega), nI_add, nI_1]
      refine ih (v + 1) (acc + g v) (by omega) ?_
      rw [Nat.add_assoc]
      exact hp
  refine ⟨N + 1, key N 0 0 (by omega) ?_⟩
  rw [Nat.zero_add]
  exact h
theorem sM_sum1 {N : Nat} {g : Nat → Nat} {M : Mm} {post : Int32 → Mm → Prop} (hN : M.1 0 3 = nI N) (h5 : N ≤ 5) (hg : ∀ i, i < N → M.1 5 i = nI (g i)) (h : post (nI (sumF g 0 N)) M) : w_X12_sumOf 1 M post := by
  have key : ∀ m v acc, v + m = N → post (nI (acc + sumF g v m)) M → w_X12_sumOf_4 post (m + 1) 1 (nI acc) (nI v) M := by
    intro m
    induction m with
    | zero =>
      intro v acc hv hp
      refine pk_le N v (fun _ => hp) (fun z => absurd z (by omega)) hN
    | succ m ih =>
      intro v acc hv hp
      refine pk_le N v (fun z => absurd z (by omega)) (fun _ => pb_1 ⟨vp_i (by omega) (by decide), ?_⟩) hN
      rw [cl_i (by omega), hg v (by omega), nI_add, nI_1]
      refine ih (v + 1) (acc + g v) (by omega) ?_
      rw [Nat.add_assoc]
      exact hp
  refine ⟨N + 1, key N 0 0 (by omega) ?_⟩
  rw [Nat.zero_add]
  exact h
theorem sM_sum0 {N : Nat} {g : Nat → Nat} {M : Mm} {post : Int32 → Mm → Prop} (hN : M.1 0 3 = nI N) (h5 : N ≤ 5) (hg : ∀ i, i < N → M.1 6 i = nI (g i)) (h : post (nI (sumF g 0 N)) M) : w_X12_sumOf 0 M post := by
  have key : ∀ m v acc, v + m = N → post (nI (acc + sumF g v m)) M → w_X12_sumOf_4 post (m + 1) 0 (nI acc) (nI v) M := by
    intro m
    induction m with
    | zero =>
      intro v acc hv hp
      refine pk_le N v (fun _ => hp) (fun z => absurd z (by omega)) hN
    | succ m ih =>
      intro v acc hv hp
      refine pk_le N v (fun z => absurd z (by omega)) (fun _ => pb_0 ⟨vp_i (by omega) (by decide), ?_⟩) hN
      rw [cl_i (by omega), hg v (by omega), nI_add, nI_1]
      refine ih (v + 1) (acc + g v) (by omega) ?_
      rw [Nat.add_assoc]
      exact hp
  refine ⟨N + 1, key N 0 0 (by omega) ?_⟩
  rw [Nat.zero_add]
  exact h
def is0 (g : Nat → Nat) (v : Nat) : Nat := if g v = 0 then 1 else 0
theorem sX_zero {b N : Nat} {g : Nat → Nat} {M : Mm} {post : Int32 → Mm → Prop} (hN : M.1 b 3 = nI N) (h5 : N ≤ 5) (hg : ∀ i, i < N → M.1 (b + 13) i = nI (g i) ∧ g i < 100) (h : post (nI (sumF (is0 g) 0 N)) M) : w_X2_peopleInRoomZero b M post := by
  have key : ∀ m v acc, v + m = N → post (nI (acc + sumF (is0 g) v m)) M → w_X2_peopleInRoomZero_4 b post (m + 1) (nI acc) (nI v) M := by
    intro m
    induction m with
    | zero =>
      intro v acc hv hp
      refine pk_le N v (fun _ => hp) (fun z => absurd z (by omega)) hN
    | succ m ih =>
      intro v acc hv hp
      refine pk_le N v (fun z => absurd z (by omega)) (fun _ => ⟨vp_i (by omega) (by decide), ?_⟩) hN
      have gv := hg v (by omega)
      rw [cl_i (by omega), gv.1]
      have hp' : post (nI (acc + (is0 g v + sumF (is0 g) (v + 1) m))) M := hp
      unfold is0 at hp'
      refine re_ (g v) 0 (fun z => ?_) (fun z => ?_)
      · rw [if_neg z] at hp'
        rw [nI_1]
        refine ih (v + 1) acc (by omega) ?_
        rw [Nat.zero_add] at hp'
        exact hp'
      · rw [if_pos z] at hp'
        rw [nI_1, nI_1]
        refine ih (v + 1) (acc + 1) (by omega) ?_
        rw [← Nat.add_assoc] at hp'
        exact hp'
  refine ⟨N + 1, key N 0 0 (by omega) ?_⟩
  rw [Nat.zero_add]
  exact h
theorem sM_zero {N : Nat} {g : Nat → Nat} {M : Mm} {post : Int32 → Mm → Prop} (hN : M.1 0 3 = nI N) (h5 : N ≤ 5) (hg : ∀ i, i < N → M.1 7 i = nI (g i) ∧ g i < 100) (h : post (nI (sumF (is0 g) 0 N)) M) : w_X12_inRoom 0 M post := by
  have key : ∀ m v acc, v + m = N → post (nI (acc + sumF (is0 g) v m)) M → w_X12_inRoom_4 post (m + 1) 0 (nI acc) (nI v) M := by
    intro m
    induction m with
    | zero =>
      intro v acc hv hp
      refine pk_le N v (fun _ => hp) (fun z => absurd z (by omega)) hN
    | succ m ih =>
      intro v acc hv hp
      refine pk_le N v (fun z => absurd z (by omega)) (fun _ => ⟨vp_i (by omega) (by decide), ?_⟩) hN
      have gv := hg v (by omega)
      rw [cl_i (by omega), gv.1]
      have hp' : post (nI (acc + (is0 g v + sumF (is0 g) (v + 1) m))) M := hp
      unfold is0 at hp'
      refine re_ (g v) 0 (fun z => ?_) (fun z => ?_)
      · rw [if_neg z] at hp'
        rw [← nI_0, nI_add, nI_1]
        refine ih (v + 1) (acc + 0) (by omega) ?_
        rw [Nat.zero_add] at hp'
        exact hp'
      · rw [if_pos z] at hp'
        rw [nI_1, nI_1]
        refine ih (v + 1) (acc + 1) (by omega) ?_
        rw [← Nat.add_assoc] at hp'
        exact hp'
  refine ⟨N + 1, key N 0 0 (by omega) ?_⟩
  rw [Nat.zero_add]
  exact h
/-- run: whatever is asked of the answer v and the memory M1 behind it, holds -/
def Ev (w : (Int32 → Mm → Prop) → Prop) (v : Int32) (M1 : Mm) : Prop := ∀ post : Int32 → Mm → Prop, post v M1 → w post
theorem count_both {k : Nat} {MX MM : Mm} (x : Int32) (hR : Rel k MX MM) : ∃ v, Ev (w_X11_count x MX) v MX ∧ Ev (w_X12_howMany x MM) v MM := by
  obtain ⟨s, f, pn, pg, cr, cs, hX, hM, hV, ⟨p1, p2, p3, p4⟩, ⟨c1, c2, c3, c4, c5, c6⟩, h6⟩ := hR
  have h5 := hV.1.2.2.1
  have hz : ∀ i, i < s 2 → f 6 i < 100 := fun i hi => by have := hV.2.2.2.1 i hi; have := hV.1.1; omega
  unfold Ev w_X11_count w_X12_howMany
  by_cases q0 : x = 0
  · exact ⟨nI (s 0), fun post h => pb_t q0 ((H3_rooms hX).symm ▸ h), fun post h => pb_t q0 ((hM.rooms).symm ▸ h)⟩
  by_cases q1 : x = 1
  · exact ⟨nI (s 1), fun post h => pb_f q0 (pb_t q1 ((H3_passages hX).symm ▸ h)), fun post h => pb_f q0 (pb_t q1 ((hM.passages).symm ▸ h))⟩
  by_cases q2 : x = 2
  · exact ⟨nI (s 2), fun post h => pb_f q0 (pb_f q1 (pb_t q2 ((H3_people hX).symm ▸ h))), fun post h => pb_f q0 (pb_f q1 (pb_t q2 ((hM.people).symm ▸ h)))⟩
  by_cases q3 : x = 3
  · exact ⟨nI (sumF (f 4) 0 (s 2)), fun post h => pb_f q0 (pb_f q1 (pb_f q2 (pb_t q3 (sX_sum (H3_people hX) h5 (g := f 4) (fun i hi => H3_deed hX (by omega)) h)))), fun post h => pb_f q0 (pb_f q1 (pb_f q2 (pb_t q3 (sM_sum1 hM.people h5 (g := f 4) (fun i hi => hM.deed (by omega)) h))))⟩
  by_cases q4 : x = 4
  · exact ⟨nI (sumF (f 5) 0 (s 2)), fun post h => pb_f q0 (pb_f q1 (pb_f q2 (pb_f q3 (pb_t q4 (sX_sum (H3_people hX) h5 (g := f 5) (fun i hi => H3_lie hX (by omega)) h))))), fun post h => pb_f q0 (pb_f q1 (pb_f q2 (pb_f q3 (pb_t q4 (sM_sum0 hM.people h5 (g := f 5) (fun i hi => hM.lie (by omega)) h)))))⟩
  by_cases q5 : x = 5
  · exact ⟨nI (sumF (f 7) 0 (s 2)), fun post h => pb_f q0 (pb_f q1 (pb_f q2 (pb_f q3 (pb_f q4 (pb_t q5 (sX_sum (H3_people hX) h5 (g := f 7) (fun i hi => H3_took hX (by omega)) h)))))), fun post h => pb_f q0 (pb_f q1 (pb_f q2 (pb_f q3 (pb_f q4 (pb_t q5 (sM_tookAll hM.people h5 (g := f 7) (fun i hi => hM.took (by omega)) h))))))⟩
  by_cases q6 : x = 6
  · exact ⟨nI (s 3), fun post h => pb_f q0 (pb_f q1 (pb_f q2 (pb_f q3 (pb_f q4 (pb_f q5 (pb_t q6 ((H3_together hX).symm ▸ h))))))), fun post h => pb_f q0 (pb_f q1 (pb_f q2 (pb_f q3 (pb_f q4 (pb_f q5 (pb_t q6 ((hM.together).symm ▸ h)))))))⟩
  by_cases q7 : x = 7
  · exact ⟨nI (sumF (is0 (f 6)) 0 (s 2)), fun post h => pb_f q0 (pb_f q1 (pb_f q2 (pb_f q3 (pb_f q4 (pb_f q5 (pb_f q6 (pb_t q7 (sX_zero (H3_people hX) h5 (g := f 6) (fun i hi => ⟨H3_place hX (by omega), hz i hi⟩) h)))))))), fun post h => pb_f q0 (pb_f q1 (pb_f q2 (pb_f q3 (pb_f q4 (pb_f q5 (pb_f q6 (pb_t q7 (sM_zero hM.people h5 (g := f 6) (fun i hi => ⟨hM.place (by omega), hz i hi⟩) h))))))))⟩
  by_cases q8 : x = 8
  · exact ⟨nI (s 4), fun post h => pb_f q0 (pb_f q1 (pb_f q2 (pb_f q3 (pb_f q4 (pb_f q5 (pb_f q6 (pb_f q7 (pb_t q8 ((H3_seen hX).symm ▸ h))))))))), fun post h => pb_f q0 (pb_f q1 (pb_f q2 (pb_f q3 (pb_f q4 (pb_f q5 (pb_f q6 (pb_f q7 (pb_t q8 ((hM.seen).symm ▸ h)))))))))⟩
  by_cases q9 : x = 9
  · exact ⟨nI pn, fun post h => pb_f q0 (pb_f q1 (pb_f q2 (pb_f q3 (pb_f q4 (pb_f q5 (pb_f q6 (pb_f q7 (pb_f q8 (pb_t q9 ((p1).symm ▸ h)))))))))), fun post h => pb_f q0 (pb_f q1 (pb_f q2 (pb_f q3 (pb_f q4 (pb_f q5 (pb_f q6 (pb_f q7 (pb_f q8 (pb_t q9 ((p2).symm ▸ h))))))))))⟩
  by_cases q10 : x = 10
  · exact ⟨nI cr, fun post h => pb_f q0 (pb_f q1 (pb_f q2 (pb_f q3 (pb_f q4 (pb_f q5 (pb_f q6 (pb_f q7 (pb_f q8 (pb_f q9 (pb_t q10 ((c1).symm ▸ h))))))))))), fun post h => pb_f q0 (pb_f q1 (pb_f q2 (pb_f q3 (pb_f q4 (pb_f q5 (pb_f q6 (pb_f q7 (pb_f q8 (pb_f q9 (pb_t q10 ((c2).symm ▸ h)))))))))))⟩
  by_cases q11 : x = 11
  · exact ⟨nI cs, fun post h => pb_f q0 (pb_f q1 (pb_f q2 (pb_f q3 (pb_f q4 (pb_f q5 (pb_f q6 (pb_f q7 (pb_f q8 (pb_f q9 (pb_f q10 (pb_t q11 ((c4).symm ▸ h)))))))))))), fun post h => pb_f q0 (pb_f q1 (pb_f q2 (pb_f q3 (pb_f q4 (pb_f q5 (pb_f q6 (pb_f q7 (pb_f q8 (pb_f q9 (pb_f q10 (pb_t q11 ((c5).symm ▸ h))))))))))))⟩
  exact ⟨-102, fun post h => pb_f q0 (pb_f q1 (pb_f q2 (pb_f q3 (pb_f q4 (pb_f q5 (pb_f q6 (pb_f q7 (pb_f q8 (pb_f q9 (pb_f q10 (pb_f q11 (h)))))))))))), fun post h => pb_f q0 (pb_f q1 (pb_f q2 (pb_f q3 (pb_f q4 (pb_f q5 (pb_f q6 (pb_f q7 (pb_f q8 (pb_f q9 (pb_f q10 (pb_f q11 (h))))))))))))⟩
theorem sim_count (k : Nat) (MX MM : Mm) (x1 : Int32) (hk : k < 512) (hR : Rel k MX MM) : w_X11_count x1 MX (fun r MX1 => w_X12_count x1 MM (fun r1 MM1 => r = r1 ∧ Rel (k + 1) MX1 MM1)) := by
  obtain ⟨v, h1, h2⟩ := count_both x1 hR
  exact h1 _ (h2 _ ⟨rfl, hR.up⟩)
theorem sim_as (k : Nat) (MX MM : Mm) (x1 x2 : Int32) (hk : k < 512) (hR : Rel k MX MM) : w_X11_as x1 x2 MX (fun r MX1 => w_X12_as x1 x2 MM (fun r1 MM1 => r = r1 ∧ Rel (k + 1) MX1 MM1)) := by
  have hR1 := hR.up
  obtain ⟨s, f, pn, pg, cr, cs, hX, hM, hV, -⟩ := hR
  have hs := hV.1.2.2.1
  unfold w_X11_as w_X12_as
  refine sX_hasPerson hX.people (by omega) (fun h => pn_1 ?_) (fun h => pn_0 (sM_isPerson hM.people (by omega) (fun a => absurd a h) (fun a => pn_0 ⟨rfl, hR1⟩)))
  have h' := h
  obtain ⟨i, hi, rfl⟩ := h
  have vi := hV.2.2.2.1 i hi
  have ci : (nI i).toNatClampNeg = i := cl_i (by omega)
  refine ⟨fun q => ?_, fun q => ⟨fun q2 => ?_, fun q2 => ?_⟩⟩
  · exact sM_isPerson hM.people (by omega) (fun a => pn_1 (sM_within (fun z _ => absurd q z) (fun _ => pn_0 ⟨rfl, hR1⟩))) (fun a => absurd h' a)
  · have q2' : x2 ≤ nI 4 := by
      rw [Int32.lt_iff_toInt_lt] at q2
      rw [Int32.le_iff_toInt_le, nI_toInt (by decide)]
      have : (5 : Int32).toInt = 5 := by decide
      omega
    obtain ⟨c, -, c4, rfl⟩ := inR (lo := 0) (hi := 4) (by decide) q q2' (by decide)
    refine sX_clerk hX hV hi ?_
    have fin : ∀ (b : Int32), (if c = 0 ∨ f 3 i = c ∨ (c = 2 ∧ f 3 i = 4) then b = 1 else b = 0) → ((b = 0 → w_X12_isPerson (nI i) MM (fun r1 M2 => (¬ r1 = 0 → w_X12_within (nI c) (0 : Int32) (4 : Int32) M2 (fun r5 M6 => (¬ r5 = 0 → (vp_in (nI i) 5) ∧ ((nI c = 0 → (-1 : Int32) = nI i ∧ Rel (k + 1) MX M6) ∧ (¬ nI c = 0 → ((M6.1 4 (nI i).toNatClampNeg = nI c → (-1 : Int32) = nI i ∧ Rel (k + 1) MX M6) ∧ (¬ M6.1 4 (nI i).toNatClampNeg = nI c → ((¬ nI c = (2 : Int32) → (-1 : Int32) = -1 ∧ Rel (k + 1) MX M6) ∧ (nI c = (2 : Int32) → ((¬ M6.1 4 (nI i).toNatClampNeg = (4 : Int32) → (-1 : Int32) = -1 ∧ Rel (k + 1) MX M6) ∧ (M6.1 4 (nI i).toNatClampNeg = (4 : Int32) → (-1 : Int32) = nI i ∧ Rel (k + 1) MX M6)))))))) ∧ (r5 = 0 → (-1 : Int32) = -102 ∧ Rel (k + 1) MX M6))) ∧ (r1 = 0 → (-1 : Int32) = -101 ∧ Rel (k + 1) MX M2))) ∧ (¬ b = 0 → w_X12_isPerson (nI i) MM (fun r1 M2 => (¬ r1 = 0 → w_X12_within (nI c) (0 : Int32) (4 : Int32) M2 (fun r5 M6 => (¬ r5 = 0 → (vp_in (nI i) 5) ∧ ((nI c = 0 → nI i = nI i ∧ Rel (k + 1) MX M6) ∧ (¬ nI c = 0 → ((M6.1 4 (nI i).toNatClampNeg = nI c → nI i = nI i ∧ Rel (k + 1) MX M6) ∧ (¬ M6.1 4 (nI i).toNatClampNeg = nI c → ((¬ nI c = (2 : Int32) → nI i = -1 ∧ Rel (k + 1) MX M6) ∧ (nI c = (2 : Int32) → ((¬ M6.1 4 (nI i).toNatClampNeg = (4 : Int32) → nI i = -1 ∧ Rel (k + 1) MX M6) ∧ (M6.1 4 (nI i).toNatClampNeg = (4 : Int32) → nI i = nI i ∧ Rel (k + 1) MX M6)))))))) ∧ (r5 = 0 → nI i = -102 ∧ Rel (k + 1) MX M6))) ∧ (r1 = 0 → nI i = -101 ∧ Rel (k + 1) MX M2)))) := by
      intro b hb
      by_cases z : c = 0 ∨ f 3 i = c ∨ (c = 2 ∧ f 3 i = 4)
      · rw [if_pos z] at hb
        subst hb
        refine pb_1 (sM_isPerson hM.people (by omega) (fun a => pn_1 (sM_within (fun _ _ => pn_1 ⟨vp_i (by omega) (by decide), ?_⟩) (fun y => ?_))) (fun a => absurd h' a))
        · rw [ci, hM.kind (by omega)]
          refine pk_eq c 0 (fun _ => ⟨rfl, hR1⟩) (fun z0 => pk_eq (f 3 i) c (fun _ => ⟨rfl, hR1⟩) (fun z1 => re_ c 2 (fun z2 => ?_) (fun z2 => re_ (f 3 i) 4 (fun z3 => ?_) (fun z3 => ⟨rfl, hR1⟩))))
          · rcases z with z | z | z
            · exact absurd z z0
            · exact absurd z z1
            · exact absurd z.1 z2
          · rcases z with z | z | z
            · exact absurd z z0
            · exact absurd z z1
            · exact absurd z.2 z3
        · rcases y with y | y
          · exact absurd y q
          · exact absurd y (le_nlt.mp q2')
      · rw [if_neg z] at hb
        subst hb
        refine pb_0 (sM_isPerson hM.people (by omega) (fun a => pn_1 (sM_within (fun _ _ => pn_1 ⟨vp_i (by omega) (by decide), ?_⟩) (fun y => ?_))) (fun a => absurd h' a))
        · rw [ci, hM.kind (by omega)]
          exact pk_eq c 0 (fun z0 => absurd (Or.inl z0) z) (fun z0 => pk_eq (f 3 i) c (fun z1 => absurd (Or.inr (Or.inl z1)) z) (fun z1 => re_ c 2 (fun z2 => ⟨rfl, hR1⟩) (fun z2 => re_ (f 3 i) 4 (fun z3 => ⟨rfl, hR1⟩) (fun z3 => absurd (Or.inr (Or.inr ⟨z2, z3⟩)) z))))
        · rcases y with y | y
          · exact absurd y q
          · exact absurd y (le_nlt.mp q2')
    obtain ⟨g1, g2⟩ := kd_clk (b := 3) (by decide) (show f 3 i < 5 by omega)
    refine ⟨g1, ?_⟩
    rcases pk5 (show f 3 i < 5 by omega) with e | e | e | e | e
    · rw [e] at g1 g2 ⊢
      refine Or.inl ⟨g2, ?_⟩
      unfold w_X11_isOfKind_k1
      rcases pk5 (show c < 5 by omega) with d | d | d | d | d <;> subst d <;> rw [e] at fin
      · exact pb_f (by decide) (pb_f (by decide) (pb_f (by decide) (pb_f (by decide) (fin 1 (by simp)))))
      · exact pb_t (by decide) (fin 0 (by simp))
      · exact pb_f (by decide) (pb_t (by decide) (fin 0 (by simp)))
      · exact pb_f (by decide) (pb_f (by decide) (pb_t (by decide) (fin 0 (by simp))))
      · exact pb_f (by decide) (pb_f (by decide) (pb_f (by decide) (pb_t (by decide) (fin 0 (by simp)))))
    · rw [e] at g1 g2 ⊢
      refine Or.inr (Or.inl ⟨g2, ?_⟩)
      unfold w_X11_isOfKind_k0
      rcases pk5 (show c < 5 by omega) with d | d | d | d | d <;> subst d <;> rw [e] at fin
      · exact pb_f (by decide) (pb_f (by decide) (pb_f (by decide) (pb_f (by decide) (fin 1 (by simp)))))
      · exact pb_t (by decide) (fin 1 (by simp))
      · exact pb_f (by decide) (pb_t (by decide) (fin 0 (by simp)))
      · exact pb_f (by decide) (pb_f (by decide) (pb_t (by decide) (fin 0 (by simp))))
      · exact pb_f (by decide) (pb_f (by decide) (pb_f (by decide) (pb_t (by decide) (fin 0 (by simp)))))
    · rw [e] at g1 g2 ⊢
      refine Or.inr (Or.inr (Or.inl ⟨g2, ?_⟩))
      unfold w_X11_isOfKind_k4
      rcases pk5 (show c < 5 by omega) with d | d | d | d | d <;> subst d <;> rw [e] at fin
      · exact pb_f (by decide) (pb_f (by decide) (pb_f (by decide) (pb_f (by decide) (fin 1 (by simp)))))
      · exact pb_t (by decide) (fin 0 (by simp))
      · exact pb_f (by decide) (pb_t (by decide) (fin 1 (by simp)))
      · exact pb_f (by decide) (pb_f (by decide) (pb_t (by decide) (fin 0 (by simp))))
      · exact pb_f (by decide) (pb_f (by decide) (pb_f (by decide) (pb_t (by decide) (fin 0 (by simp)))))
    · rw [e] at g1 g2 ⊢
      refine Or.inr (Or.inr (Or.inr (Or.inl ⟨g2, ?_⟩)))
      unfold w_X11_isOfKind_k9
      rcases pk5 (show c < 5 by omega) with d | d | d | d | d <;> subst d <;> rw [e] at fin
      · exact pb_f (by decide) (pb_f (by decide) (pb_f (by decide) (pb_f (by decide) (fin 1 (by simp)))))
      · exact pb_t (by decide) (fin 0 (by simp))
      · exact pb_f (by decide) (pb_t (by decide) (fin 0 (by simp)))
      · exact pb_f (by decide) (pb_f (by decide) (pb_t (by decide) (fin 1 (by simp))))
      · exact pb_f (by decide) (pb_f (by decide) (pb_f (by decide) (pb_t (by decide) (fin 0 (by simp)))))
    · rw [e] at g1 g2 ⊢
      refine Or.inr (Or.inr (Or.inr (Or.inr ⟨g2, ?_⟩)))
      unfold w_X11_isOfKind_k3
      rcases pk5 (show c < 5 by omega) with d | d | d | d | d <;> subst d <;> rw [e] at fin
      · exact pb_f (by decide) (pb_f (by decide) (pb_f (by decide) (pb_f (by decide) (fin 1 (by simp)))))
      · exact pb_t (by decide) (fin 0 (by simp))
      · exact pb_f (by decide) (pb_t (by decide) (fin 1 (by simp)))
      · exact pb_f (by decide) (pb_f (by decide) (pb_t (by decide) (fin 0 (by simp))))
      · exact pb_f (by decide) (pb_f (by decide) (pb_f (by decide) (pb_t (by decide) (fin 1 (by simp)))))
  · refine sM_isPerson hM.people (by omega) (fun a => pn_1 (sM_within (fun _ z => ?_) (fun _ => pn_0 ⟨rfl, hR1⟩))) (fun a => absurd h' a)
    rw [Int32.lt_iff_toInt_lt] at q2 z
    have e4 : (4 : Int32).toInt = 4 := by decide
    have e5 : (5 : Int32).toInt = 5 := by decide
    omega
/-! ===== ends of passages; who goes; what is seen ===== -/
def ea (f : Nat → Nat → Nat) (p r : Nat) : Prop := f 0 p = r ∨ f 1 p = r
def ac (f : Nat → Nat → Nat) (p r : Nat) : Nat := if f 0 p = r then f 1 p else f 0 p
theorem ac_lt {T : Nat} {s : Nat → Nat} {f : Nat → Nat → Nat} (hV : Vt T s f) {p : Nat} (hp : p < s 1) (r : Nat) : ac f p r < s 0 := by
  have vp := hV.2.2.1 p hp
  unfold ac
  split <;> omega
theorem sX_endsAt {b p r : Nat} {M : Mm} {s : Nat → Nat} {f : Nat → Nat → Nat} {post : Int32 → Mm → Prop} {T : Nat} (hX : HX b M s f) (hV : Vt T s f) (hp : p < s 1) (hr : r < 2 ^ 31) (h1 : ea f p r → post 1 M) (h0 : ¬ ea f p r → post 0 M) : w_X2_endsAt b (nI p) (nI r) M post := by
  have hs1 := hV.1.2.1
  have hs0 := hV.1.1
  have vp := hV.2.2.1 p hp
  unfold w_X2_endsAt
  rw [cl_i (by omega), hX.one (by omega), hX.other (by omega)]
  exact ⟨vp_i (by omega) (by decide), pk_eq (f 0 p) r (fun z => h1 (Or.inl z)) (fun z => re_ (f 1 p) r (fun z2 => h0 (fun q => q.elim z z2)) (fun z2 => h1 (Or.inr z2)))⟩
theorem sM_endsAt {p r : Nat} {M : Mm} {s : Nat → Nat} {f : Nat → Nat → Nat} {post : Int32 → Mm → Prop} {T : Nat} (hM : HM M s f) (hV : Vt T s f) (hp : p < s 1) (hr : r < 2 ^ 31) (h1 : ea f p r → post 1 M) (h0 : ¬ ea f p r → post 0 M) : w_X12_endsAt (nI p) (nI r) M post := by
  have hs1 := hV.1.2.1
  have hs0 := hV.1.1
  have vp := hV.2.2.1 p hp
  unfold w_X12_endsAt
  rw [cl_i (by omega), hM.one (by omega), hM.other (by omega)]
  exact ⟨vp_i (by omega) (by decide), pk_eq (f 0 p) r (fun z => h1 (Or.inl z)) (fun z => re_ (f 1 p) r (fun z2 => h0 (fun q => q.elim z z2)) (fun z2 => h1 (Or.inr z2)))⟩
theorem sX_across {b p r : Nat} {M : Mm} {s : Nat → Nat} {f : Nat → Nat → Nat} {post : Int32 → Mm → Prop} {T : Nat} (hX : HX b M s f) (hV : Vt T s f) (hp : p < s 1) (hr : r < 2 ^ 31) (h : post (nI (ac f p r)) M) : w_X2_across b (nI p) (nI r) M post := by
  have hs1 := hV.1.2.1
  have hs0 := hV.1.1
  have vp := hV.2.2.1 p hp
  unfold w_X2_across
  rw [cl_i (by omega), hX.one (by omega), hX.other (by omega)]
  unfold ac at h
  refine ⟨vp_i (by omega) (by decide), re_ (f 0 p) r (fun z => ?_) (fun z => ?_)⟩
  · rw [if_neg z] at h
    exact h
  · rw [if_pos z] at h
    exact h
theorem sM_bey {p a c r : Nat} {M : Mm} {post : Int32 → Mm → Prop} (hp : p < 7) (e1 : M.1 1 p = nI a) (e2 : M.1 2 p = nI c) (ha : a < 2 ^ 31) (hr : r < 2 ^ 31) (h : post (nI (if a = r then c else a)) M) : w_X12_beyond (nI p) (nI r) M post := by
  unfold w_X12_beyond
  rw [cl_i (by omega), e1, e2]
  refine ⟨vp_i (by omega) (by decide), re_ a r (fun z => ?_) (fun z => ?_)⟩
  · rw [if_neg z] at h
    exact h
  · rw [if_pos z] at h
    exact h
theorem sX_leave {b i p w : Nat} {M : Mm} {s : Nat → Nat} {f : Nat → Nat → Nat} {post : Int32 → Mm → Prop} {T : Nat} (hX : HX b M s f) (hV : Vt T s f) (hi : i < s 2) (hp : p < s 1) (hw : w ≤ s 2) (h1 : ea f p (f 6 i) → (w = 0 ∨ f 6 (w - 1) = f 6 i) → post 1 M) (h0 : ¬ (ea f p (f 6 i) ∧ (w = 0 ∨ f 6 (w - 1) = f 6 i)) → post 0 M) : w_X2_mayLeaveBy b (nI i) (nI p) (nI w - 1) M post := by
  have hs := hV.1.2.2.1
  have hs0 := hV.1.1
  have vi := hV.2.2.2.1 i hi
  unfold w_X2_mayLeaveBy
  refine ⟨vp_i (by omega) (by decide), ?_⟩
  rw [cl_i (by omega), hX.place (by omega)]
  refine sX_endsAt hX hV hp (by omega) (fun q => pb_1 ?_) (fun q => pb_0 (h0 (fun z => q z.1)))
  rcases w_cases w with ⟨rfl, e⟩ | ⟨j, rfl, e⟩
  · rw [e]
    exact pb_t rfl (h1 q (Or.inl rfl))
  · rw [e]
    have vj := hV.2.2.2.1 j (by omega)
    refine pb_f (ne_m1 (by omega)) ⟨vp_i (by omega) (by decide), ?_⟩
    rw [cl_i (by omega), hX.place (by omega), hX.place (by omega)]
    refine re_ (f 6 j) (f 6 i) (fun z => h0 (fun y => ?_)) (fun z => h1 q (Or.inr z))
    rcases y.2 with y | y
    · omega
    · exact z y
def wk1 (f : Nat → Nat → Nat) (i g n : Nat) : Nat → Nat → Nat := upf (upf f 6 i g) 7 i (f 7 i + n)
theorem wk1_o {f : Nat → Nat → Nat} {i g n a c : Nat} (h : a ≠ 6 ∧ a ≠ 7) : wk1 f i g n a c = f a c := by
  unfold wk1
  rw [upf_n (by omega), upf_n (by omega)]
theorem wk1_6 {f : Nat → Nat → Nat} {i g n c : Nat} : wk1 f i g n 6 c = if c = i then g else f 6 c := by
  unfold wk1
  rw [upf_n (by omega)]
  unfold upf
  by_cases z : c = i <;> simp [z]
theorem wk1_7 {f : Nat → Nat → Nat} {i g n c : Nat} : wk1 f i g n 7 c = if c = i then f 7 i + n else f 7 c := by
  unfold wk1 upf
  by_cases z : c = i <;> simp [z]
theorem Vt.wk {T T1 : Nat} {s : Nat → Nat} {f : Nat → Nat → Nat} (v : Vt T s f) {i g n : Nat} (hg : g < s 0) (hT : T ≤ T1) (hn : f 7 i + n ≤ T1) : Vt T1 s (wk1 f i g n) := by
  refine ⟨v.1, v.2.1, fun p hp => ?_, fun a ha => ?_, fun a ha => ?_⟩
  · rw [wk1_o (by omega), wk1_o (by omega), wk1_o (by omega)]
    exact v.2.2.1 p hp
  · rw [wk1_o (by omega), wk1_o (by omega), wk1_o (by omega), wk1_6, wk1_7]
    have va := v.2.2.2.1 a ha
    by_cases z : a = i
    · rw [if_pos z, if_pos z]
      omega
    · rw [if_neg z, if_neg z]
      omega
  · rw [wk1_o (by omega), wk1_o (by omega), wk1_o (by omega), wk1_o (by omega)]
    exact v.2.2.2.2 a ha
theorem stp_le {T : Nat} {s : Nat → Nat} {f : Nat → Nat → Nat} (v : Vt T s f) {i p w li : Nat} (hi : i < s 2) (hp : p < s 1) (hw : w ≤ s 2) (hl : li ≤ 9) : stp f i p w li ≤ 108 := by
  have vi := v.2.2.2.1 i hi
  have vp := v.2.2.1 p hp
  have y1 := yd_le (f 3 i) (f 2 p) (f 4 i) li
  unfold stp
  by_cases z : w = 0
  · rw [if_pos z]
    omega
  · rw [if_neg z]
    have vj := v.2.2.2.1 (w - 1) (by omega)
    have y2 := yd_le (f 3 (w - 1)) (f 2 p) (f 4 (w - 1)) (f 5 (w - 1))
    omega
def outH (b : Nat) (M M1 : Mm) : Prop := ∀ n, n < b ∨ b + 19 ≤ n → M1.1 n = M.1 n
theorem sX_walk0 {b i p : Nat} {M : Mm} {s : Nat → Nat} {f : Nat → Nat → Nat} {post : Int32 → Mm → Prop} {T : Nat} (hb : isH b) (hX : HX b M s f) (hV : Vt T s f) (hi : i < s 2) (hp : p < s 1) (h : ∀ M1, HX b M1 s (wk1 f i (ac f p (f 6 i)) (stp f i p 0 (f 5 i))) → outH b M M1 → post (nI (stp f i p 0 (f 5 i))) M1) : w_X2_walk b (nI i) (nI p) (-1) M post := by
  have hs := hV.1.2.2.1
  have hs0 := hV.1.1
  have vi := hV.2.2.2.1 i hi
  unfold w_X2_walk
  rw [← nI_m1]
  refine sX_stepsOf hb hX hV hi hp (by omega) ⟨vp_i (by omega) (by decide), ?_⟩
  rw [cl_i (show i < 2 ^ 31 by omega), hX.place (by omega)]
  refine sX_across hX hV hp (by omega) ?_
  intro M8 e8 M10 e10
  have h8 := hX.wr 6 i _ e8
  rw [h8.took (by omega), upf_n (by omega), nI_add] at e10
  have h10 := h8.wr 7 i _ e10
  refine pb_t nI_m1 (h M10 h10 (fun n hn => ?_))
  rw [e10, wI_ne _ _ (by omega), e8, wI_ne _ _ (by omega)]
theorem sX_walk1 {b i p j : Nat} {M : Mm} {s : Nat → Nat} {f : Nat → Nat → Nat} {post : Int32 → Mm → Prop} {T : Nat} (hb : isH b) (hX : HX b M s f) (hV : Vt T s f) (hi : i < s 2) (hp : p < s 1) (hj : j < s 2) (h : ∀ M1, HX b M1 (ups s 3 (s 3 + 1)) (wk1 (wk1 f i (ac f p (f 6 i)) (stp f i p (j + 1) (f 5 i))) j (ac f p (f 6 i)) (stp f i p (j + 1) (f 5 i))) → outH b M M1 → post (nI (stp f i p (j + 1) (f 5 i))) M1) : w_X2_walk b (nI i) (nI p) (nI j) M post := by
  have hs := hV.1.2.2.1
  have hs0 := hV.1.1
  have vi := hV.2.2.2.1 i hi
  unfold w_X2_walk
  rw [← nI_pred j]
  refine sX_stepsOf hb hX hV hi hp (by omega) ⟨vp_i (by omega) (by decide), ?_⟩
  rw [nI_pred j, cl_i (show i < 2 ^ 31 by omega), hX.place (by omega)]
  refine sX_across hX hV hp (by omega) ?_
  intro M8 e8 M10 e10
  have h8 := hX.wr 6 i _ e8
  rw [h8.took (by omega), upf_n (by omega), nI_add] at e10
  have h10 := h8.wr 7 i _ e10
  refine pb_f (ne_m1 (by omega)) ⟨vp_i (by omega) (by decide), fun M14 e14 M16 e16 M18 e18 => ?_⟩
  rw [cl_i (show j < 2 ^ 31 by omega)] at e14 e16
  have h14 := h10.wr 6 j _ e14
  rw [h14.took (by omega), upf_n (by omega), nI_add] at e16
  have h16 := h14.wr 7 j _ e16
  rw [h16.together, nI_1] at e18
  have h18 := h16.sc 3 _ (by decide) e18
  refine h M18 h18 (fun n hn => ?_)
  rw [e18, wI_ne _ _ (by omega), e16, wI_ne _ _ (by omega), e14, wI_ne _ _ (by omega), e10, wI_ne _ _ (by omega), e8, wI_ne _ _ (by omega)]
theorem sM_know {x1 x2 x3 : Int32} {M : Mm} {s : Nat → Nat} {f : Nat → Nat → Nat} {T : Nat} {A K : Mm → Prop} (hM : HM M s f) (hV : Vt T s f) (h1 : kn s x1 x2 x3 → K M) (h0 : ¬ kn s x1 x2 x3 → A M) : w_X12_isPerson x1 M (fun r1 M2 => ((r1 = 0) → A M2) ∧ ((¬ r1 = 0) → w_X12_isPassage x2 M2 (fun r5 M6 => ((r5 = 0) → A M6) ∧ ((¬ r5 = 0) → w_X12_isWith x1 x3 M6 (fun r9 M10 => ((¬ r9 = 0) → K M10) ∧ ((r9 = 0) → A M10)))))) := by
  have hs := hV.1.2.2.1
  have hs1 := hV.1.2.1
  exact sM_isPerson hM.people (by omega) (fun a1 => pb_1 (sM_isPassage hM.passages (by omega) (fun a2 => pb_1 (sM_isWith hM.people (by omega) (fun a3 => pn_1 (h1 ⟨a1, a2, a3⟩)) (fun a3 => pn_0 (h0 (fun q => a3 q.2.2))))) (fun a2 => pb_0 (h0 (fun q => a2 q.2.1))))) (fun a1 => pb_0 (h0 (fun q => a1 q.1)))
theorem sM_tired0 {M : Mm} {post : Int32 → Mm → Prop} (h : post 0 M) : w_X12_isTired (-1) M post := pb_t rfl h
theorem sM_tired {j t : Nat} {M : Mm} {post : Int32 → Mm → Prop} (hj : j < 5) (e : M.1 8 j = nI t) (ht : t ≤ 9200) (h1 : 9000 < t → post 1 M) (h0 : t ≤ 9000 → post 0 M) : w_X12_isTired (nI j) M post := by
  unfold w_X12_isTired
  refine pb_f (ne_m1 (by omega)) ⟨vp_i (by omega) (by decide), ?_⟩
  rw [cl_i (by omega), e]
  exact pk_le t 9000 (fun z => h0 z) (fun z => h1 z)
theorem sim_go (k : Nat) (MX MM : Mm) (x1 x2 x3 : Int32) (hk : k < 512) (hR : Rel k MX MM) : w_X11_go x1 x2 x3 MX (fun r MX1 => w_X12_go x1 x2 x3 MM (fun r1 MM1 => r = r1 ∧ Rel (k + 1) MX1 MM1)) := by
  have hR1 := hR.up
  obtain ⟨s, f, hX, hM, v, hR⟩ := hR.el
  have hs := v.1.2.2.1
  have hs1 := v.1.2.1
  have hs0 := v.1.1
  unfold w_X11_go
  refine sX_knows hX v (fun h => pn_1 ?_) (fun h => pn_0 ?_)
  rotate_left
  · unfold w_X12_go
    exact sM_know hM v (fun a => absurd a h) (fun _ => ⟨rfl, hR1⟩)
  have h' := h
  obtain ⟨i, p, w, hi, hp, hw, hne, rfl, rfl, rfl⟩ := kn_el h hs
  have vi := v.2.2.2.1 i hi
  have vp := v.2.2.1 p hp
  have ci : (nI i).toNatClampNeg = i := cl_i (by omega)
  have a6 := ac_lt v hp (f 6 i)
  have st := stp_le v hi hp hw (li := f 5 i) (by omega)
  refine sX_leave hX v hi hp hw (fun q1 q2 => pn_1 ⟨vp_i (by omega) (by decide), ?_⟩) (fun q => pn_0 ?_)
  · -- he may leave
    have MS : ∀ (K : Mm → Prop) (A B : Mm → Prop), K MM → ((¬ (1 : Int32) = 0 → (vp_in (nI i) 5) ∧ (w_X12_endsAt (nI p) (MM.1 7 (nI i).toNatClampNeg) MM (fun r44 M45 => ((r44 = 0) → (A M45)) ∧ ((¬ r44 = 0) → ((((nI w - 1 : Int32) = (-1 : Int32)) → (K M45)) ∧ ((¬ (nI w - 1 : Int32) = (-1 : Int32)) → ((vp_in (nI w - 1) 5) ∧ ((((M45.1 7 (nI w - 1 : Int32).toNatClampNeg) = (MM.1 7 (nI i).toNatClampNeg)) → (K M45)) ∧ ((¬ (M45.1 7 (nI w - 1 : Int32).toNatClampNeg) = (MM.1 7 (nI i).toNatClampNeg)) → (A M45))))))))))) ∧ ((1 : Int32) = 0 → B MM) := by
      intro K A B hK
      refine pn_1 ⟨vp_i (by omega) (by decide), ?_⟩
      rw [ci, hM.place (by omega)]
      refine sM_endsAt hM v hp (by omega) (fun _ => pb_1 ?_) (fun z => absurd q1 z)
      rcases w_cases w with ⟨rfl, e⟩ | ⟨j, rfl, e⟩
      · rw [e]
        exact pb_t rfl hK
      · rw [e]
        have vj := v.2.2.2.1 j (by omega)
        refine pb_f (ne_m1 (by omega)) ⟨vp_i (by omega) (by decide), ?_⟩
        rw [cl_i (by omega), hM.place (by omega)]
        refine pk_eq (f 6 j) (f 6 i) (fun _ => hK) (fun z => ?_)
        rcases q2 with q2 | q2
        · omega
        · exact absurd q2 z
    rw [ci, H3_took hX (by omega)]
    refine pk_lt 9000 (f 7 i) (fun t1 => ?_) (fun t1 => ?_)
    · unfold w_X12_go
      refine sM_know hM v (fun _ => ?_) (fun z => absurd h' z)
      refine (MS _ _ (fun _ => True) ?_).1 (by decide)
      rw [ci, hM.place (by omega)]
      unfold w_X12_go_65
      exact sM_tired (by omega) (hM.took (by omega)) (by omega) (fun _ => pn_1 ⟨rfl, hR1⟩) (fun z => absurd z (by omega))
    · rcases w_cases w with ⟨rfl, e⟩ | ⟨j, rfl, e⟩
      · rw [e] at h' MS ⊢
        refine pb_t rfl ?_
        unfold w_X11_go_70
        refine sX_walk0 (by decide) hX v hi hp (fun M1 g1 g2 => ?_)
        unfold w_X12_go
        refine sM_know hM v (fun _ => ?_) (fun z => absurd h' z)
        refine (MS _ _ (fun _ => True) ?_).1 (by decide)
        rw [ci, hM.place (by omega)]
        unfold w_X12_go_65
        refine sM_tired (by omega) (hM.took (by omega)) (by omega) (fun z => absurd z (by omega)) (fun _ => pn_0 (sM_tired0 (pb_0 ?_)))
        rw [← nI_m1]
        refine sM_stepsOf hM v hi hp (by omega) ⟨vp_i (by omega) (by decide), fun M13 e13 => ?_⟩
        rw [ci, hM.took (by omega), nI_add] at e13
        have h13 := hM.wr 7 i _ e13
        refine sM_bey (by omega) (h13.one (by omega)) (h13.other (by omega)) (by rw [upf_n (by omega)]; omega) (by omega) ?_
        rw [upf_n (by omega), upf_n (by omega)]
        intro M18 e18
        rw [ci] at e18
        have h18 := h13.wr 6 i _ e18
        refine pb_t nI_m1 ⟨rfl, ?_⟩
        rw [upf_comm (by decide)] at h18
        refine Rel.mk g1 h18 (v.wk a6 (Nat.le_refl _) (by omega)) (hR.hs ⟨rfl, rfl, rfl⟩ (fun a => ⟨wk1_o (by omega), wk1_o (by omega), wk1_o (by omega)⟩) (fun n hn => g2 n (by omega)) (fun n hn => ?_) (fun n hn => ?_))
        · rw [e18, wI_ne _ _ (by omega), e13, wI_ne _ _ (by omega)]
        · rw [e18, wI_ne _ _ (by omega), e13, wI_ne _ _ (by omega)]
      · rw [e] at h' MS ⊢
        have vj := v.2.2.2.1 j (by omega)
        have cj : (nI j).toNatClampNeg = j := cl_i (by omega)
        refine pb_f (ne_m1 (by omega)) ⟨vp_i (by omega) (by decide), ?_⟩
        rw [cj, H3_took hX (by omega)]
        refine pk_le (f 7 j) 9000 (fun t2 => ?_) (fun t2 => ?_)
        · unfold w_X11_go_70
          refine sX_walk1 (by decide) hX v hi hp (by omega) (fun M1 g1 g2 => ?_)
          unfold w_X12_go
          refine sM_know hM v (fun _ => ?_) (fun z => absurd h' z)
          refine (MS _ _ (fun _ => True) ?_).1 (by decide)
          rw [ci, hM.place (by omega)]
          unfold w_X12_go_65
          refine sM_tired (by omega) (hM.took (by omega)) (by omega) (fun z => absurd z (by omega)) (fun _ => pn_0 (sM_tired (by omega) (hM.took (by omega)) (by omega) (fun z => absurd z (by omega)) (fun _ => pb_0 ?_)))
          rw [← nI_pred j]
          refine sM_stepsOf hM v hi hp (by omega) ⟨vp_i (by omega) (by decide), fun M13 e13 => ?_⟩
          rw [ci, hM.took (by omega), nI_add] at e13
          have h13 := hM.wr 7 i _ e13
          refine sM_bey (by omega) (h13.one (by omega)) (h13.other (by omega)) (by rw [upf_n (by omega)]; omega) (by omega) ?_
          rw [upf_n (by omega), upf_n (by omega)]
          intro M18 e18
          rw [ci] at e18
          have h18 := h13.wr 6 i _ e18
          rw [nI_pred j]
          refine pb_f (ne_m1 (by omega)) ⟨vp_i (by omega) (by decide), fun M22 e22 => ?_⟩
          rw [upf_comm (by decide)] at h18
          rw [cj, h18.took (by omega), nI_add] at e22
          have h22 := h18.wr 7 j _ e22
          refine sM_bey (by omega) (h22.one (by omega)) (h22.other (by omega)) (by rw [upf_n (by omega), upf_n (by omega), upf_n (by omega)]; omega) (by omega) ?_
          rw [upf_n (by omega), upf_n (by omega), upf_n (by omega), upf_n (by omega), upf_n (by omega), upf_n (by omega)]
          intro M27 e27 M29 e29
          rw [cj] at e27
          have h27 := h22.wr 6 j _ e27
          rw [upf_comm (by decide)] at h27
          rw [h27.together, nI_1] at e29
          have h29 := h27.sc 3 _ (by decide) e29
          refine ⟨rfl, ?_⟩
          have v1 := v.wk (i := i) a6 (Nat.le_refl 9200) (n := stp f i p (j + 1) (f 5 i)) (by omega)
          have v2 := v1.wk (i := j) a6 (Nat.le_refl 9200) (n := stp f i p (j + 1) (f 5 i)) (by rw [wk1_7, if_neg (by omega)]; omega)
          refine Rel.mk g1 h29 ⟨v2.1, v2.2.1, v2.2.2.1, v2.2.2.2.1, v2.2.2.2.2⟩ (hR.hs ⟨rfl, rfl, rfl⟩ (fun a => ⟨?_, ?_, ?_⟩) (fun n hn => g2 n (by omega)) (fun n hn => ?_) (fun n hn => ?_))
          · rw [wk1_o (by omega), wk1_o (by omega)]
          · rw [wk1_o (by omega), wk1_o (by omega)]
          · rw [wk1_o (by omega), wk1_o (by omega)]
          · rw [e29, wI_same, pk_un (by omega), e27, wI_ne _ _ (by omega), e22, wI_ne _ _ (by omega), e18, wI_ne _ _ (by omega), e13, wI_ne _ _ (by omega)]
          · rw [e29, wI_ne _ _ (by omega), e27, wI_ne _ _ (by omega), e22, wI_ne _ _ (by omega), e18, wI_ne _ _ (by omega), e13, wI_ne _ _ (by omega)]
        · unfold w_X12_go
          refine sM_know hM v (fun _ => ?_) (fun z => absurd h' z)
          refine (MS _ _ (fun _ => True) ?_).1 (by decide)
          rw [ci, hM.place (by omega)]
          unfold w_X12_go_65
          exact sM_tired (by omega) (hM.took (by omega)) (by omega) (fun z => absurd z (by omega)) (fun _ => pn_0 (sM_tired (by omega) (hM.took (by omega)) (by omega) (fun _ => pb_1 ⟨rfl, hR1⟩) (fun z => absurd z (by omega))))
  · -- he may not
    unfold w_X12_go
    refine sM_know hM v (fun _ => ⟨vp_i (by omega) (by decide), ?_⟩) (fun z => absurd h' z)
    rw [ci, hM.place (by omega)]
    refine sM_endsAt hM v hp (by omega) (fun q1 => pb_1 ?_) (fun _ => pb_0 ⟨rfl, hR1⟩)
    rcases w_cases w with ⟨rfl, e⟩ | ⟨j, rfl, e⟩
    · exact absurd ⟨q1, Or.inl rfl⟩ q
    · rw [e]
      have vj := v.2.2.2.1 j (by omega)
      refine pb_f (ne_m1 (by omega)) ⟨vp_i (by omega) (by decide), ?_⟩
      rw [cl_i (by omega), hM.place (by omega)]
      exact pk_eq (f 6 j) (f 6 i) (fun z => absurd ⟨q1, Or.inr z⟩ q) (fun _ => ⟨rfl, hR1⟩)
theorem sim_see (k : Nat) (MX MM : Mm) (x1 x2 x3 x4 : Int32) (hk : k < 512) (hR : Rel k MX MM) : w_X11_see x1 x2 x3 x4 MX (fun r MX1 => w_X12_see x1 x2 x3 x4 MM (fun r1 MM1 => r = r1 ∧ Rel (k + 1) MX1 MM1)) := by
  have hR1 := hR.up
  obtain ⟨s, f, hX, hM, v, hR⟩ := hR.el
  have hs := v.1.2.2.1
  have hs1 := v.1.2.1
  have hs4 := v.1.2.2.2
  unfold w_X11_see w_X12_see
  refine sX_knows hX v (fun h => pn_1 ?_) (fun h => pn_0 (sM_know hM v (fun a => absurd a h) (fun _ => ⟨rfl, hR1⟩)))
  refine ⟨fun q => ?_, fun q => ⟨fun q2 => ?_, fun q2 => ?_⟩⟩
  · exact sM_know hM v (fun _ => sM_within (fun z _ => absurd q z) (fun _ => pn_0 ⟨rfl, hR1⟩)) (fun z => absurd h z)
  · obtain ⟨n, -, n1, rfl⟩ := inR (lo := 0) (hi := 120) (by decide) q q2 (by decide)
    have MS : ∀ (K : Mm → Prop) (A : Mm → Prop), K MM → w_X12_within (nI n) 0 120 MM (fun r13 M14 => (¬ r13 = 0 → K M14) ∧ (r13 = 0 → A M14)) := by
      intro K A hK
      refine sM_within (fun _ _ => pn_1 hK) (fun z => ?_)
      rcases z with z | z
      · exact absurd z q
      · exact absurd z (le_nlt.mp q2)
    have h' := h
    obtain ⟨i, p, w, hi, hp, hw, hne, rfl, rfl, rfl⟩ := kn_el h hs
    rw [H3_seen hX]
    refine pk_lt (s 4) 6 (fun t => ?_) (fun t => ?_)
    · unfold w_X2_note
      rw [H3_seen hX]
      refine pb_f (nI_ge (a := s 4) (b := 6) t (by decide)) ⟨vp_i (by omega) (by decide), fun M3 e3 => ?_⟩
      rw [cl_i (by omega)] at e3
      have h3 := hX.wr 8 (s 4) i e3
      rw [h3.seen]
      refine ⟨vp_i (by omega) (by decide), fun M6 e6 => ?_⟩
      rw [cl_i (by omega)] at e6
      have h6 := h3.wr 9 (s 4) p e6
      rw [h6.seen]
      refine ⟨vp_i (by omega) (by decide), fun M9 e9 => ?_⟩
      rw [cl_i (by omega)] at e9
      have h9 := h6.wr 10 (s 4) w e9
      rw [h9.seen]
      refine ⟨vp_i (by omega) (by decide), fun M12 e12 M14 e14 => ?_⟩
      rw [cl_i (by omega)] at e12
      have h12 := h9.wr 11 (s 4) n e12
      rw [h12.seen, nI_1] at e14
      have h14 := h12.sc 4 _ (by decide) e14
      refine sM_know hM v (fun _ => MS _ _ ?_) (fun z => absurd h' z)
      rw [hM.seen]
      refine re_ (s 4) 6 (fun _ => ⟨vp_i (by omega) (by decide), fun N3 d3 => ?_⟩) (fun z => absurd z (by omega))
      rw [cl_i (by omega)] at d3
      have g3 := hM.wr 8 (s 4) i d3
      rw [g3.seen]
      refine ⟨vp_i (by omega) (by decide), fun N6 d6 => ?_⟩
      rw [cl_i (by omega)] at d6
      have g6 := g3.wr 9 (s 4) p d6
      rw [g6.seen]
      refine ⟨vp_i (by omega) (by decide), fun N9 d9 => ?_⟩
      rw [cl_i (by omega)] at d9
      have g9 := g6.wr 10 (s 4) w d9
      rw [g9.seen]
      refine ⟨vp_i (by omega) (by decide), fun N12 d12 N14 d14 => ?_⟩
      rw [cl_i (by omega)] at d12
      have g12 := g9.wr 11 (s 4) n d12
      rw [g12.seen, nI_1] at d14
      have g14 := g12.sc 4 _ (by decide) d14
      refine ⟨?_, ?_⟩
      · rw [h14.seen, g14.seen]
      · refine Rel.mk h14 g14 ?_ (hR.hs ⟨rfl, rfl, rfl⟩ (fun a => ⟨?_, ?_, ?_⟩) (fun m hm => ?_) (fun m hm => ?_) (fun m hm => ?_))
        · refine ⟨⟨v.1.1, v.1.2.1, v.1.2.2.1, ?_⟩, v.2.1, fun a ha => ?_, fun a ha => ?_, fun a ha => ?_⟩
          · show s 4 + 1 ≤ 6
            omega
          · rw [upf_n (by omega), upf_n (by omega), upf_n (by omega), upf_n (by omega), upf_n (by omega), upf_n (by omega), upf_n (by omega), upf_n (by omega), upf_n (by omega), upf_n (by omega), upf_n (by omega), upf_n (by omega)]
            exact v.2.2.1 a ha
          · have va := v.2.2.2.1 a ha
            have o : ∀ c, c < 8 → upf (upf (upf (upf f 8 (s 4) i) 9 (s 4) p) 10 (s 4) w) 11 (s 4) n c a = f c a := fun c hc => by rw [upf_n (by omega), upf_n (by omega), upf_n (by omega), upf_n (by omega)]
            rw [o 3 (by omega), o 4 (by omega), o 5 (by omega), o 6 (by omega), o 7 (by omega)]
            exact va
          · have ha' : a < s 4 + 1 := ha
            have d8 : upf (upf (upf (upf f 8 (s 4) i) 9 (s 4) p) 10 (s 4) w) 11 (s 4) n 8 a = if a = s 4 then i else f 8 a := by
              rw [upf_n (by omega), upf_n (by omega), upf_n (by omega)]
              unfold upf
              by_cases z : a = s 4 <;> simp [z]
            have d9 : upf (upf (upf (upf f 8 (s 4) i) 9 (s 4) p) 10 (s 4) w) 11 (s 4) n 9 a = if a = s 4 then p else f 9 a := by
              rw [upf_n (by omega), upf_n (by omega)]
              unfold upf
              by_cases z : a = s 4 <;> simp [z]
            have d10 : upf (upf (upf (upf f 8 (s 4) i) 9 (s 4) p) 10 (s 4) w) 11 (s 4) n 10 a = if a = s 4 then w else f 10 a := by
              rw [upf_n (by omega)]
              unfold upf
              by_cases z : a = s 4 <;> simp [z]
            have d11 : upf (upf (upf (upf f 8 (s 4) i) 9 (s 4) p) 10 (s 4) w) 11 (s 4) n 11 a = if a = s 4 then n else f 11 a := by
              unfold upf
              by_cases z : a = s 4 <;> simp [z]
            rw [d8, d9, d10, d11]
            by_cases z : a = s 4
            · rw [if_pos z, if_pos z, if_pos z, if_pos z]
              exact ⟨hi, hp, hw, hne, n1⟩
            · rw [if_neg z, if_neg z, if_neg z, if_neg z]
              exact v.2.2.2.2 a (by omega)
        · rw [upf_n (by omega), upf_n (by omega), upf_n (by omega), upf_n (by omega)]
        · rw [upf_n (by omega), upf_n (by omega), upf_n (by omega), upf_n (by omega)]
        · rw [upf_n (by omega), upf_n (by omega), upf_n (by omega), upf_n (by omega)]
        · rw [e14, wI_ne _ _ (by omega), e12, wI_ne _ _ (by omega), e9, wI_ne _ _ (by omega), e6, wI_ne _ _ (by omega), e3, wI_ne _ _ (by omega)]
        · rw [d14, wI_same, pk_un (by omega), d12, wI_ne _ _ (by omega), d9, wI_ne _ _ (by omega), d6, wI_ne _ _ (by omega), d3, wI_ne _ _ (by omega)]
        · rw [d14, wI_ne _ _ (by omega), d12, wI_ne _ _ (by omega), d9, wI_ne _ _ (by omega), d6, wI_ne _ _ (by omega), d3, wI_ne _ _ (by omega)]
    · refine sM_know hM v (fun _ => MS _ _ ?_) (fun z => absurd h' z)
      rw [hM.seen]
      exact re_ (s 4) 6 (fun z => absurd (show s 4 = 6 by omega) z) (fun _ => ⟨rfl, hR1⟩)
  · exact sM_know hM v (fun _ => sM_within (fun _ z => absurd (le_nlt.mpr z) q2) (fun _ => pn_0 ⟨rfl, hR1⟩)) (fun z => absurd h z)
/-! ===== a house taken over whole; the image ===== -/
def CP (b K J : Nat) (s : Nat → Nat) (f : Nat → Nat → Nat) (M0 M : Mm) : Prop := (∀ k, k < K → M.1 b (slX k) = nI (s k)) ∧ (∀ j i, j < J → i < lnH j → M.1 (b + 7 + j) i = enc j (f j i)) ∧ outH b M0 M
theorem CP.hx {b b2 K J : Nat} {s : Nat → Nat} {f : Nat → Nat → Nat} {M0 M : Mm} (h : CP b K J s f M0 M) (h2 : HX b2 M0 s f) (hd : b + 19 ≤ b2 ∨ b2 + 19 ≤ b) : HX b2 M s f := h2.cg (fun n h1 h3 => h.2.2 n (by omega))
theorem CP.slot {b b2 K : Nat} {s : Nat → Nat} {f : Nat → Nat → Nat} {M0 M M1 : Mm} (h : CP b K 0 s f M0 M) (h2 : HX b2 M0 s f) (hd : b + 19 ≤ b2 ∨ b2 + 19 ≤ b) (hK : K < 5) (e : M1 = wI M b (upd (M.1 b) (slX K) (M.1 b2 (slX K)))) : CP b (K + 1) 0 s f M0 M1 := by
  have g := (h.hx h2 hd).1 K hK
  have g' : M.1 b2 (slX K) = nI (s K) := g
  rw [g'] at e
  refine ⟨fun k hk => ?_, fun j i hj => absurd hj (by omega), fun n hn => ?_⟩
  · rw [e, wI_same]
    by_cases z : k = K
    · rw [z, pk_us]
    · rw [pk_un (fun q => z (slX_inj (by omega) hK q))]
      exact h.1 k (by omega)
  · rw [e, wI_ne _ _ (by omega)]
    exact h.2.2 n hn
theorem CP.row {b b2 J : Nat} {s : Nat → Nat} {f : Nat → Nat → Nat} {M0 M M1 : Mm} (h : CP b 5 J s f M0 M) (h2 : HX b2 M0 s f) (hd : b + 19 ≤ b2 ∨ b2 + 19 ≤ b) (hJ : J < 12) {r r2 n : Nat} (hr : r = b + 7 + J) (hr2 : r2 = b2 + 7 + J) (hn : n = lnH J) (e : M1 = wI M r (va_cpy (M.1 r2) (M.1 r) (0 : Int32).toNatClampNeg (0 : Int32).toNatClampNeg n)) : CP b 5 (J + 1) s f M0 M1 := by
  have z0 : (0 : Int32).toNatClampNeg = 0 := by decide
  rw [z0] at e
  subst hr hr2 hn
  refine ⟨fun k hk => ?_, fun j i hj hi => ?_, fun n hn => ?_⟩
  · rw [e, wI_ne _ _ (by omega)]
    exact h.1 k hk
  · by_cases z : j = J
    · subst z
      rw [e, wI_same, pk_cpy_in (by omega) (by omega)]
      have g : M.1 (b2 + 7 + j) i = enc j (f j i) := (h.hx h2 hd).2 j i hJ hi
      rw [show 0 + (i - 0) = i by omega]
      exact g
    · rw [e, wI_ne _ _ (by omega)]
      exact h.2.1 j i (by omega) hi
  · rw [e, wI_ne _ _ (by omega)]
    exact h.2.2 n hn
theorem sX_copy {b b2 : Nat} {M : Mm} {s : Nat → Nat} {f : Nat → Nat → Nat} {post : Mm → Prop} (hd : b + 19 ≤ b2 ∨ b2 + 19 ≤ b) (h2 : HX b2 M s f) (h : ∀ M1, HX b M1 s f → outH b M M1 → post M1) : w_X2_copyFrom b b2 M post := by
  unfold w_X2_copyFrom
  have c0 : CP b 0 0 s f M M := ⟨fun k hk => absurd hk (by omega), fun j i hj => absurd hj (by omega), fun n hn => rfl⟩
  intro M1 e1 M3 e3 M5 e5 M7 e7 M9 e9 M11 e11 M13 e13 M15 e15 M17 e17 M19 e19 M21 e21 M23 e23 M25 e25 M27 e27 M29 e29 M31 e31 M33 e33
  have d0 := CP.slot c0 h2 hd (by decide) e1
  have d1 := CP.slot d0 h2 hd (by decide) e3
  have d2 := CP.slot d1 h2 hd (by decide) e5
  have d3 := CP.slot d2 h2 hd (by decide) e7
  have d4 := CP.slot d3 h2 hd (by decide) e9
  have r0 : CP b 5 0 s f M M9 := d4
  have r1 := CP.row r0 h2 hd (by decide) (by omega) (by omega) (by decide) e11
  have r2 := CP.row r1 h2 hd (by decide) (by omega) (by omega) (by decide) e13
  have r3 := CP.row r2 h2 hd (by decide) (by omega) (by omega) (by decide) e15
  have r4 := CP.row r3 h2 hd (by decide) (by omega) (by omega) (by decide) e17
  have r5 := CP.row r4 h2 hd (by decide) (by omega) (by omega) (by decide) e19
  have r6 := CP.row r5 h2 hd (by decide) (by omega) (by omega) (by decide) e21
  have r7 := CP.row r6 h2 hd (by decide) (by omega) (by omega) (by decide) e23
  have r8 := CP.row r7 h2 hd (by decide) (by omega) (by omega) (by decide) e25
  have r9 := CP.row r8 h2 hd (by decide) (by omega) (by omega) (by decide) e27
  have r10 := CP.row r9 h2 hd (by decide) (by omega) (by omega) (by decide) e29
  have r11 := CP.row r10 h2 hd (by decide) (by omega) (by omega) (by decide) e31
  have r12 := CP.row r11 h2 hd (by decide) (by omega) (by omega) (by decide) e33
  exact h M33 ⟨r12.1, r12.2.1⟩ r12.2.2
theorem cp1 {M M1 : Mm} {r q v : Nat} {g : Nat → Int32} (e : M1 = wI M r (upd (M.1 r) v (M.1 q v))) (hq : M.1 q v = g v) (h : ∀ i, i < v → M.1 r i = g i) : ∀ i, i < v + 1 → M1.1 r i = g i := by
  intro i hi
  rw [e, wI_same]
  by_cases z : i = v
  · rw [z, pk_us, hq]
  · rw [pk_un z]
    exact h i (by omega)
theorem cpo {M M1 : Mm} {r n : Nat} {F : Nat → Int32} (e : M1 = wI M r F) (h : n ≠ r) : M1.1 n = M.1 n := by rw [e, wI_ne _ _ h]
theorem lp_i6 {g : Nat → Nat → Int32} {M0 : Mm} {post : Int32 → Mm → Prop} (hs : ∀ i, i < 6 → M0.1 9 i = g 29 i ∧ M0.1 10 i = g 30 i ∧ M0.1 11 i = g 31 i ∧ M0.1 12 i = g 32 i) (hc : ∀ M1 : Mm, (∀ i, i < 6 → M1.1 29 i = g 29 i ∧ M1.1 30 i = g 30 i ∧ M1.1 31 i = g 31 i ∧ M1.1 32 i = g 32 i) → (∀ n, n ≠ 29 → n ≠ 30 → n ≠ 31 → n ≠ 32 → M1.1 n = M0.1 n) → w_X12_tookAll M1 (fun r2 M3 => post r2 M3)) : ∀ m v M, v + m = 6 → (∀ i, i < v → M.1 29 i = g 29 i ∧ M.1 30 i = g 30 i ∧ M.1 31 i = g 31 i ∧ M.1 32 i = g 32 i) → (∀ n, n ≠ 29 → n ≠ 30 → n ≠ 31 → n ≠ 32 → M.1 n = M0.1 n) → w_X12_image_128 post (m + 1) (nI v) M := by
  intro m
  induction m with
  | zero =>
    intro v M hv h1 h2
    obtain rfl : v = 6 := by omega
    exact pb_t (by decide) (hc M h1 h2)
  | succ m ih =>
    intro v M hv h1 h2
    refine pk_le 6 v (fun z => absurd z (by omega)) (fun _ => ⟨vp_i (by omega) (by decide), fun N0 d0 N1 d1 N2 d2 N3 d3 => ?_⟩)
    rw [cl_i (by omega)] at d0 d1 d2 d3
    rw [nI_1]
    have hv1 := hs v (by omega)
    have q0 : M.1 9 = M0.1 9 := by rw [h2 9 (by decide) (by decide) (by decide) (by decide)]
    have u0 : ∀ i, i < v → M.1 29 i = g 29 i := fun i hi => by rw [show M.1 29 i = M.1 29 i from rfl]; exact (h1 i hi).1
    have w0 := cp1 d0 (g := g 29) (by rw [q0]; exact hv1.1) u0
    have q1 : N0.1 10 = M0.1 10 := by rw [cpo d0 (n := 10) (by decide), h2 10 (by decide) (by decide) (by decide) (by decide)]
    have u1 : ∀ i, i < v → N0.1 30 i = g 30 i := fun i hi => by rw [cpo d0 (n := 30) (by decide)]; exact (h1 i hi).2.1
    have w1 := cp1 d1 (g := g 30) (by rw [q1]; exact hv1.2.1) u1
    have q2 : N1.1 11 = M0.1 11 := by rw [cpo d1 (n := 11) (by decide), cpo d0 (n := 11) (by decide), h2 11 (by decide) (by decide) (by decide) (by decide)]
    have u2 : ∀ i, i < v → N1.1 31 i = g 31 i := fun i hi => by rw [cpo d1 (n := 31) (by decide), cpo d0 (n := 31) (by decide)]; exact (h1 i hi).2.2.1
    have w2 := cp1 d2 (g := g 31) (by rw [q2]; exact hv1.2.2.1) u2
    have q3 : N2.1 12 = M0.1 12 := by rw [cpo d2 (n := 12) (by decide), cpo d1 (n := 12) (by decide), cpo d0 (n := 12) (by decide), h2 12 (by decide) (by decide) (by decide) (by decide)]
    have u3 : ∀ i, i < v → N2.1 32 i = g 32 i := fun i hi => by rw [cpo d2 (n := 32) (by decide), cpo d1 (n := 32) (by decide), cpo d0 (n := 32) (by decide)]; exact (h1 i hi).2.2.2
    have w3 := cp1 d3 (g := g 32) (by rw [q3]; exact hv1.2.2.2) u3
    refine ih (v + 1) N3 (by omega) (fun i hi => ⟨?_, ?_, ?_, ?_⟩) (fun n o0 o1 o2 o3 => ?_)
    · rw [cpo d3 (n := 29) (by decide), cpo d2 (n := 29) (by decide), cpo d1 (n := 29) (by decide)]; exact w0 i hi
    · rw [cpo d3 (n := 30) (by decide), cpo d2 (n := 30) (by decide)]; exact w1 i hi
    · rw [cpo d3 (n := 31) (by decide)]; exact w2 i hi
    · rw [show N3.1 32 i = N3.1 32 i from rfl]; exact w3 i hi
    · rw [cpo d3 o3, cpo d2 o2, cpo d1 o1, cpo d0 o0]; exact h2 n o0 o1 o2 o3
theorem lp_i5 {g : Nat → Nat → Int32} {M0 : Mm} {post : Int32 → Mm → Prop} (hs : ∀ i, i < 5 → M0.1 5 i = g 25 i ∧ M0.1 6 i = g 26 i ∧ M0.1 7 i = g 27 i ∧ M0.1 8 i = g 28 i) (hc : ∀ M1 : Mm, (∀ i, i < 5 → M1.1 25 i = g 25 i ∧ M1.1 26 i = g 26 i ∧ M1.1 27 i = g 27 i ∧ M1.1 28 i = g 28 i) → (∀ n, n ≠ 25 → n ≠ 26 → n ≠ 27 → n ≠ 28 → M1.1 n = M0.1 n) → ∃ n0 : Nat, w_X12_image_128 post n0 (0 : Int32) M1) : ∀ m v M, v + m = 5 → (∀ i, i < v → M.1 25 i = g 25 i ∧ M.1 26 i = g 26 i ∧ M.1 27 i = g 27 i ∧ M.1 28 i = g 28 i) → (∀ n, n ≠ 25 → n ≠ 26 → n ≠ 27 → n ≠ 28 → M.1 n = M0.1 n) → w_X12_image_67 post (m + 1) (nI v) M := by
  intro m
  induction m with
  | zero =>
    intro v M hv h1 h2
    obtain rfl : v = 5 := by omega
    exact pb_t (by decide) (hc M h1 h2)
  | succ m ih =>
    intro v M hv h1 h2
    refine pk_le 5 v (fun z => absurd z (by omega)) (fun _ => ⟨vp_i (by omega) (by decide), fun N0 d0 N1 d1 N2 d2 N3 d3 => ?_⟩)
    rw [cl_i (by omega)] at d0 d1 d2 d3
    rw [nI_1]
    have hv1 := hs v (by omega)
    have q0 : M.1 5 = M0.1 5 := by rw [h2 5 (by decide) (by decide) (by decide) (by decide)]
    have u0 : ∀ i, i < v → M.1 25 i = g 25 i := fun i hi => by rw [show M.1 25 i = M.1 25 i from rfl]; exact (h1 i hi).1
    have w0 := cp1 d0 (g := g 25) (by rw [q0]; exact hv1.1) u0
    have q1 : N0.1 6 = M0.1 6 := by rw [cpo d0 (n := 6) (by decide), h2 6 (by decide) (by decide) (by decide) (by decide)]
    have u1 : ∀ i, i < v → N0.1 26 i = g 26 i := fun i hi => by rw [cpo d0 (n := 26) (by decide)]; exact (h1 i hi).2.1
    have w1 := cp1 d1 (g := g 26) (by rw [q1]; exact hv1.2.1) u1
    have q2 : N1.1 7 = M0.1 7 := by rw [cpo d1 (n := 7) (by decide), cpo d0 (n := 7) (by decide), h2 7 (by decide) (by decide) (by decide) (by decide)]
    have u2 : ∀ i, i < v → N1.1 27 i = g 27 i := fun i hi => by rw [cpo d1 (n := 27) (by decide), cpo d0 (n := 27) (by decide)]; exact (h1 i hi).2.2.1
    have w2 := cp1 d2 (g := g 27) (by rw [q2]; exact hv1.2.2.1) u2
    have q3 : N2.1 8 = M0.1 8 := by rw [cpo d2 (n := 8) (by decide), cpo d1 (n := 8) (by decide), cpo d0 (n := 8) (by decide), h2 8 (by decide) (by decide) (by decide) (by decide)]
    have u3 : ∀ i, i < v → N2.1 28 i = g 28 i := fun i hi => by rw [cpo d2 (n := 28) (by decide), cpo d1 (n := 28) (by decide), cpo d0 (n := 28) (by decide)]; exact (h1 i hi).2.2.2
    have w3 := cp1 d3 (g := g 28) (by rw [q3]; exact hv1.2.2.2) u3
    refine ih (v + 1) N3 (by omega) (fun i hi => ⟨?_, ?_, ?_, ?_⟩) (fun n o0 o1 o2 o3 => ?_)
    · rw [cpo d3 (n := 25) (by decide), cpo d2 (n := 25) (by decide), cpo d1 (n := 25) (by decide)]; exact w0 i hi
    · rw [cpo d3 (n := 26) (by decide), cpo d2 (n := 26) (by decide)]; exact w1 i hi
    · rw [cpo d3 (n := 27) (by decide)]; exact w2 i hi
    · rw [show N3.1 28 i = N3.1 28 i from rfl]; exact w3 i hi
    · rw [cpo d3 o3, cpo d2 o2, cpo d1 o1, cpo d0 o0]; exact h2 n o0 o1 o2 o3
theorem lp_i7 {g : Nat → Nat → Int32} {M0 : Mm} {post : Int32 → Mm → Prop} (hs : ∀ i, i < 7 → M0.1 3 i = g 24 i) (hc : ∀ M1 : Mm, (∀ i, i < 7 → M1.1 24 i = g 24 i) → (∀ n, n ≠ 24 → M1.1 n = M0.1 n) → ∃ n0 : Nat, w_X12_image_67 post n0 (0 : Int32) M1) : ∀ m v M, v + m = 7 → (∀ i, i < v → M.1 24 i = g 24 i) → (∀ n, n ≠ 24 → M.1 n = M0.1 n) → w_X12_image_41 post (m + 1) (nI v) M := by
  intro m
  induction m with
  | zero =>
    intro v M hv h1 h2
    obtain rfl : v = 7 := by omega
    exact pb_t (by decide) (hc M h1 h2)
  | succ m ih =>
    intro v M hv h1 h2
    refine pk_le 7 v (fun z => absurd z (by omega)) (fun _ => ⟨vp_i (by omega) (by decide), fun N0 d0 => ?_⟩)
    rw [cl_i (by omega)] at d0
    rw [nI_1]
    have hv1 := hs v (by omega)
    have q0 : M.1 3 = M0.1 3 := by rw [h2 3 (by decide)]
    have u0 : ∀ i, i < v → M.1 24 i = g 24 i := fun i hi => by rw [show M.1 24 i = M.1 24 i from rfl]; exact (h1 i hi)
    have w0 := cp1 d0 (g := g 24) (by rw [q0]; exact hv1) u0
    refine ih (v + 1) N0 (by omega) (fun i hi => ?_) (fun n o0 => ?_)
    · rw [show N0.1 24 i = N0.1 24 i from rfl]; exact w0 i hi
    · rw [cpo d0 o0]; exact h2 n o0
theorem lp_r6 {g : Nat → Nat → Int32} {M0 : Mm} {post : Int32 → Mm → Prop} (hs : ∀ i, i < 6 → M0.1 29 i = g 9 i ∧ M0.1 30 i = g 10 i ∧ M0.1 31 i = g 11 i ∧ M0.1 32 i = g 12 i) (hc : ∀ M1 : Mm, (∀ i, i < 6 → M1.1 9 i = g 9 i ∧ M1.1 10 i = g 10 i ∧ M1.1 11 i = g 11 i ∧ M1.1 12 i = g 12 i) → (∀ n, n ≠ 9 → n ≠ 10 → n ≠ 11 → n ≠ 12 → M1.1 n = M0.1 n) → w_X12_tookAll M1 (fun r2 M3 => post r2 M3)) : ∀ m v M, v + m = 6 → (∀ i, i < v → M.1 9 i = g 9 i ∧ M.1 10 i = g 10 i ∧ M.1 11 i = g 11 i ∧ M.1 12 i = g 12 i) → (∀ n, n ≠ 9 → n ≠ 10 → n ≠ 11 → n ≠ 12 → M.1 n = M0.1 n) → w_X12_restore_126 post (m + 1) (nI v) M := by
  intro m
  induction m with
  | zero =>
    intro v M hv h1 h2
    obtain rfl : v = 6 := by omega
    exact pb_t (by decide) (hc M h1 h2)
  | succ m ih =>
    intro v M hv h1 h2
    refine pk_le 6 v (fun z => absurd z (by omega)) (fun _ => ⟨vp_i (by omega) (by decide), fun N0 d0 N1 d1 N2 d2 N3 d3 => ?_⟩)
    rw [cl_i (by omega)] at d0 d1 d2 d3
    rw [nI_1]
    have hv1 := hs v (by omega)
    have q0 : M.1 29 = M0.1 29 := by rw [h2 29 (by decide) (by decide) (by decide) (by decide)]
    have u0 : ∀ i, i < v → M.1 9 i = g 9 i := fun i hi => by rw [show M.1 9 i = M.1 9 i from rfl]; exact (h1 i hi).1
    have w0 := cp1 d0 (g := g 9) (by rw [q0]; exact hv1.1) u0
    have q1 : N0.1 30 = M0.1 30 := by rw [cpo d0 (n := 30) (by decide), h2 30 (by decide) (by decide) (by decide) (by decide)]
    have u1 : ∀ i, i < v → N0.1 10 i = g 10 i := fun i hi => by rw [cpo d0 (n := 10) (by decide)]; exact (h1 i hi).2.1
    have w1 := cp1 d1 (g := g 10) (by rw [q1]; exact hv1.2.1) u1
    have q2 : N1.1 31 = M0.1 31 := by rw [cpo d1 (n := 31) (by decide), cpo d0 (n := 31) (by decide), h2 31 (by decide) (by decide) (by decide) (by decide)]
    have u2 : ∀ i, i < v → N1.1 11 i = g 11 i := fun i hi => by rw [cpo d1 (n := 11) (by decide), cpo d0 (n := 11) (by decide)]; exact (h1 i hi).2.2.1
    have w2 := cp1 d2 (g := g 11) (by rw [q2]; exact hv1.2.2.1) u2
    have q3 : N2.1 32 = M0.1 32 := by rw [cpo d2 (n := 32) (by decide), cpo d1 (n := 32) (by decide), cpo d0 (n := 32) (by decide), h2 32 (by decide) (by decide) (by decide) (by decide)]
    have u3 : ∀ i, i < v → N2.1 12 i = g 12 i := fun i hi => by rw [cpo d2 (n := 12) (by decide), cpo d1 (n := 12) (by decide), cpo d0 (n := 12) (by decide)]; exact (h1 i hi).2.2.2
    have w3 := cp1 d3 (g := g 12) (by rw [q3]; exact hv1.2.2.2) u3
    refine ih (v + 1) N3 (by omega) (fun i hi => ⟨?_, ?_, ?_, ?_⟩) (fun n o0 o1 o2 o3 => ?_)
    · rw [cpo d3 (n := 9) (by decide), cpo d2 (n := 9) (by decide), cpo d1 (n := 9) (by decide)]; exact w0 i hi
    · rw [cpo d3 (n := 10) (by decide), cpo d2 (n := 10) (by decide)]; exact w1 i hi
    · rw [cpo d3 (n := 11) (by decide)]; exact w2 i hi
    · rw [show N3.1 12 i = N3.1 12 i from rfl]; exact w3 i hi
    · rw [cpo d3 o3, cpo d2 o2, cpo d1 o1, cpo d0 o0]; exact h2 n o0 o1 o2 o3
theorem lp_r5 {g : Nat → Nat → Int32} {M0 : Mm} {post : Int32 → Mm → Prop} (hs : ∀ i, i < 5 → M0.1 25 i = g 5 i ∧ M0.1 26 i = g 6 i ∧ M0.1 27 i = g 7 i ∧ M0.1 28 i = g 8 i) (hc : ∀ M1 : Mm, (∀ i, i < 5 → M1.1 5 i = g 5 i ∧ M1.1 6 i = g 6 i ∧ M1.1 7 i = g 7 i ∧ M1.1 8 i = g 8 i) → (∀ n, n ≠ 5 → n ≠ 6 → n ≠ 7 → n ≠ 8 → M1.1 n = M0.1 n) → ∃ n0 : Nat, w_X12_restore_126 post n0 (0 : Int32) M1) : ∀ m v M, v + m = 5 → (∀ i, i < v → M.1 5 i = g 5 i ∧ M.1 6 i = g 6 i ∧ M.1 7 i = g 7 i ∧ M.1 8 i = g 8 i) → (∀ n, n ≠ 5 → n ≠ 6 → n ≠ 7 → n ≠ 8 → M.1 n = M0.1 n) → w_X12_restore_65 post (m + 1) (nI v) M := by
  intro m
  induction m with
  | zero =>
    intro v M hv h1 h2
    obtain rfl : v = 5 := by omega
    exact pb_t (by decide) (hc M h1 h2)
  | succ m ih =>
    intro v M hv h1 h2
    refine pk_le 5 v (fun z => absurd z (by omega)) (fun _ => ⟨vp_i (by omega) (by decide), fun N0 d0 N1 d1 N2 d2 N3 d3 => ?_⟩)
    rw [cl_i (by omega)] at d0 d1 d2 d3
    rw [nI_1]
    have hv1 := hs v (by omega)
    have q0 : M.1 25 = M0.1 25 := by rw [h2 25 (by decide) (by decide) (by decide) (by decide)]
    have u0 : ∀ i, i < v → M.1 5 i = g 5 i := fun i hi => by rw [show M.1 5 i = M.1 5 i from rfl]; exact (h1 i hi).1
    have w0 := cp1 d0 (g := g 5) (by rw [q0]; exact hv1.1) u0
    have q1 : N0.1 26 = M0.1 26 := by rw [cpo d0 (n := 26) (by decide), h2 26 (by decide) (by decide) (by decide) (by decide)]
    have u1 : ∀ i, i < v → N0.1 6 i = g 6 i := fun i hi => by rw [cpo d0 (n := 6) (by decide)]; exact (h1 i hi).2.1
    have w1 := cp1 d1 (g := g 6) (by rw [q1]; exact hv1.2.1) u1
    have q2 : N1.1 27 = M0.1 27 := by rw [cpo d1 (n := 27) (by decide), cpo d0 (n := 27) (by decide), h2 27 (by decide) (by decide) (by decide) (by decide)]
    have u2 : ∀ i, i < v → N1.1 7 i = g 7 i := fun i hi => by rw [cpo d1 (n := 7) (by decide), cpo d0 (n := 7) (by decide)]; exact (h1 i hi).2.2.1
    have w2 := cp1 d2 (g := g 7) (by rw [q2]; exact hv1.2.2.1) u2
    have q3 : N2.1 28 = M0.1 28 := by rw [cpo d2 (n := 28) (by decide), cpo d1 (n := 28) (by decide), cpo d0 (n := 28) (by decide), h2 28 (by decide) (by decide) (by decide) (by decide)]
    have u3 : ∀ i, i < v → N2.1 8 i = g 8 i := fun i hi => by rw [cpo d2 (n := 8) (by decide), cpo d1 (n := 8) (by decide), cpo d0 (n := 8) (by decide)]; exact (h1 i hi).2.2.2
    have w3 := cp1 d3 (g := g 8) (by rw [q3]; exact hv1.2.2.2) u3
    refine ih (v + 1) N3 (by omega) (fun i hi => ⟨?_, ?_, ?_, ?_⟩) (fun n o0 o1 o2 o3 => ?_)
    · rw [cpo d3 (n := 5) (by decide), cpo d2 (n := 5) (by decide), cpo d1 (n := 5) (by decide)]; exact w0 i hi
    · rw [cpo d3 (n := 6) (by decide), cpo d2 (n := 6) (by decide)]; exact w1 i hi
    · rw [cpo d3 (n := 7) (by decide)]; exact w2 i hi
    · rw [show N3.1 8 i = N3.1 8 i from rfl]; exact w3 i hi
    · rw [cpo d3 o3, cpo d2 o2, cpo d1 o1, cpo d0 o0]; exact h2 n o0 o1 o2 o3
theorem lp_r7 {g : Nat → Nat → Int32} {M0 : Mm} {post : Int32 → Mm → Prop} (hs : ∀ i, i < 7 → M0.1 24 i = g 3 i) (hc : ∀ M1 : Mm, (∀ i, i < 7 → M1.1 3 i = g 3 i) → (∀ n, n ≠ 3 → M1.1 n = M0.1 n) → ∃ n0 : Nat, w_X12_restore_65 post n0 (0 : Int32) M1) : ∀ m v M, v + m = 7 → (∀ i, i < v → M.1 3 i = g 3 i) → (∀ n, n ≠ 3 → M.1 n = M0.1 n) → w_X12_restore_39 post (m + 1) (nI v) M := by
  intro m
  induction m with
  | zero =>
    intro v M hv h1 h2
    obtain rfl : v = 7 := by omega
    exact pb_t (by decide) (hc M h1 h2)
  | succ m ih =>
    intro v M hv h1 h2
    refine pk_le 7 v (fun z => absurd z (by omega)) (fun _ => ⟨vp_i (by omega) (by decide), fun N0 d0 => ?_⟩)
    rw [cl_i (by omega)] at d0
    rw [nI_1]
    have hv1 := hs v (by omega)
    have q0 : M.1 24 = M0.1 24 := by rw [h2 24 (by decide)]
    have u0 : ∀ i, i < v → M.1 3 i = g 3 i := fun i hi => by rw [show M.1 3 i = M.1 3 i from rfl]; exact (h1 i hi)
    have w0 := cp1 d0 (g := g 3) (by rw [q0]; exact hv1) u0
    refine ih (v + 1) N0 (by omega) (fun i hi => ?_) (fun n o0 => ?_)
    · rw [show N0.1 3 i = N0.1 3 i from rfl]; exact w0 i hi
    · rw [cpo d0 o0]; exact h2 n o0
def gI (f : Nat → Nat → Nat) (d i : Nat) : Int32 := if d = 24 then nI (f 2 i) else if d = 31 then nI (f 10 i) - 1 else nI (f (d - 21) i)
theorem gI_row {f : Nat → Nat → Nat} {d i : Nat} (h1 : 25 ≤ d) (h2 : d ≠ 31) : gI f d i = nI (f (d - 21) i) := by
  unfold gI
  rw [if_neg (by omega), if_neg h2]
theorem gI_24 {f : Nat → Nat → Nat} {i : Nat} : gI f 24 i = nI (f 2 i) := rfl
theorem gI_31 {f : Nat → Nat → Nat} {i : Nat} : gI f 31 i = nI (f 10 i) - 1 := rfl
theorem sX_there {b N : Nat} {M : Mm} {post : Int32 → Mm → Prop} (hN : M.1 b 1 = nI N) (h5 : N ≤ 5) (h1 : 0 < N → post 1 M) (h0 : N = 0 → post 0 M) : w_X2_isThere b M post := by
  unfold w_X2_isThere
  exact pk_le N 0 (fun z => h0 (by omega)) (fun z => h1 z) hN
theorem sim_image (k : Nat) (MX MM : Mm) (hk : k < 512) (hR : Rel k MX MM) : w_X11_image MX (fun r MX1 => w_X12_image MM (fun r1 MM1 => r = r1 ∧ Rel (k + 1) MX1 MM1)) := by
  have hR1 := hR.up
  obtain ⟨s, f, pn, pg, cr, cs, hX, hM, v, ⟨p1, p2, p3, p4⟩, ⟨c1, c2, c3, c4, c5, c6⟩, h6⟩ := hR
  have hs := v.1.2.2.1
  have hs0 := v.1.1
  unfold w_X11_image w_X12_image
  refine sX_there hX.rooms hs0 (fun t => pn_1 ?_) (fun t => pn_0 ?_)
  · refine sX_copy (Or.inr (by decide)) hX (fun M6 g6 o6 M8 e8 => ?_)
    have x0 : ∀ n, n ≠ 0 → M8.1 n = M6.1 n := fun n hn => cpo e8 hn
    have x3 : HX 3 M8 s f := hX.cg (fun n a b => (x0 n (by omega)).trans (o6 n (by omega)))
    have x22 : HX 22 M8 s f := g6.cg (fun n a b => x0 n (by omega))
    refine sX_sum (H3_people x3) hs (g := f 7) (fun i hi => H3_took x3 (by omega)) ?_
    rw [hM.people]
    refine re_ (s 2) 0 (fun z => ?_) (fun z => absurd z (by omega))
    intro N1 d1 N2 d2 N3 d3 N4 d4
    have y0 : ∀ n, n ≠ 0 → N4.1 n = MM.1 n := fun n hn => by rw [cpo d4 hn, cpo d3 hn, cpo d2 hn, cpo d1 hn]
    have y1 : ∀ j, j ≠ 35 → j ≠ 36 → j ≠ 37 → j ≠ 38 → N4.1 0 j = MM.1 0 j := fun j a b c d => by rw [d4, wI_same, pk_un d, d3, wI_same, pk_un c, d2, wI_same, pk_un b, d1, wI_same, pk_un a]
    have y35 : N4.1 0 35 = 1 := by rw [d4, wI_same, pk_un (by decide), d3, wI_same, pk_un (by decide), d2, wI_same, pk_un (by decide), d1, wI_same, pk_us]
    have y36 : N4.1 0 36 = nI cr := by rw [d4, wI_same, pk_un (by decide), d3, wI_same, pk_un (by decide), d2, wI_same, pk_us, d1, wI_same, pk_un (by decide), c2]
    have y37 : N4.1 0 37 = nI (s 3) := by rw [d4, wI_same, pk_un (by decide), d3, wI_same, pk_us, d2, wI_same, pk_un (by decide), d1, wI_same, pk_un (by decide), hM.together]
    have y38 : N4.1 0 38 = nI (s 4) := by rw [d4, wI_same, pk_us, d3, wI_same, pk_un (by decide), d2, wI_same, pk_un (by decide), d1, wI_same, pk_un (by decide), hM.seen]
    refine ⟨8, lp_i7 (g := gI f) (M0 := N4) (fun i hi => by rw [y0 3 (by decide), gI_24]; exact hM.len hi) (fun P1 a1 b1 => ?_) 7 0 N4 rfl (fun i hi => absurd hi (by omega)) (fun n _ => rfl)⟩
    refine ⟨6, lp_i5 (g := gI f) (M0 := P1) (fun i hi => ?_) (fun P2 a2 b2 => ?_) 5 0 P1 rfl (fun i hi => absurd hi (by omega)) (fun n _ _ _ _ => rfl)⟩
    · rw [b1 5 (by decide), b1 6 (by decide), b1 7 (by decide), b1 8 (by decide), y0 5 (by decide), y0 6 (by decide), y0 7 (by decide), y0 8 (by decide), gI_row (by decide) (by decide), gI_row (by decide) (by decide), gI_row (by decide) (by decide), gI_row (by decide) (by decide)]
      exact ⟨hM.deed hi, hM.lie hi, hM.place hi, hM.took hi⟩
    refine ⟨7, lp_i6 (g := gI f) (M0 := P2) (fun i hi => ?_) (fun P3 a3 b3 => ?_) 6 0 P2 rfl (fun i hi => absurd hi (by omega)) (fun n _ _ _ _ => rfl)⟩
    · have z9 : ∀ n, 9 ≤ n → n ≤ 12 → P2.1 n = MM.1 n := fun n h1 h2 => by rw [b2 n (by omega) (by omega) (by omega) (by omega), b1 n (by omega), y0 n (by omega)]
      rw [z9 9 (by decide) (by decide), z9 10 (by decide) (by decide), z9 11 (by decide) (by decide), z9 12 (by decide) (by decide), gI_31, gI_row (by decide) (by decide), gI_row (by decide) (by decide), gI_row (by decide) (by decide)]
      exact ⟨hM.sper hi, hM.spas hi, hM.swith hi, hM.sstep hi⟩
    have z0 : ∀ n, n < 24 → P3.1 n = N4.1 n := fun n h1 => by rw [b3 n (by omega) (by omega) (by omega) (by omega), b2 n (by omega) (by omega) (by omega) (by omega), b1 n (by omega)]
    have hM3 : HM P3 s f := hM.cg (fun j hj => by rw [z0 0 (by decide), y1 j (by omega) (by omega) (by omega) (by omega)]) (fun n h1 h2 => by rw [z0 n (by omega), y0 n (by omega)])
    refine sM_tookAll hM3.people hs (g := f 7) (fun i hi => hM3.took (by omega)) ⟨rfl, ?_⟩
    have w0 : ∀ j, j ≠ 6 → M8.1 0 j = MX.1 0 j := fun j hj => by rw [e8, wI_same, pk_un hj, o6 0 (by omega)]
    have w1 : M8.1 1 = MX.1 1 := (x0 1 (by decide)).trans (o6 1 (by omega))
    have w2 : M8.1 2 = MX.1 2 := (x0 2 (by decide)).trans (o6 2 (by omega))
    refine ⟨s, f, pn, pg, cr, cs, x3, hM3, v, ⟨by rw [w1]; exact p1, by rw [z0 0 (by decide), y1 19 (by decide) (by decide) (by decide) (by decide)]; exact p2, p3, fun i hi => by rw [w2, z0 13 (by decide), y0 13 (by decide)]; exact p4 i hi⟩, ⟨by rw [w0 7 (by decide)]; exact c1, by rw [z0 0 (by decide), y1 0 (by decide) (by decide) (by decide) (by decide)]; exact c2, by omega, by rw [w0 8 (by decide)]; exact c4, by rw [z0 0 (by decide), y1 13 (by decide) (by decide) (by decide) (by decide)]; exact c5, c6⟩, Or.inr ⟨?_, ?_, ?_, s, f, x22, ⟨⟨?_, ?_⟩, fun i hi => ?_, fun i hi => ?_, fun i hi => ?_⟩, v, ⟨rfl, rfl, rfl⟩, fun _ _ => ⟨rfl, rfl⟩, fun _ _ => rfl⟩⟩
    · rw [e8, wI_same, pk_us]
    · rw [z0 0 (by decide), y35]
    · rw [z0 0 (by decide), y36]
    · rw [z0 0 (by decide), y37]
    · rw [z0 0 (by decide), y38]
    · rw [b3 24 (by decide) (by decide) (by decide) (by decide), b2 24 (by decide) (by decide) (by decide) (by decide)]
      exact a1 i hi
    · rw [b3 25 (by decide) (by decide) (by decide) (by decide), b3 26 (by decide) (by decide) (by decide) (by decide), b3 27 (by decide) (by decide) (by decide) (by decide), b3 28 (by decide) (by decide) (by decide) (by decide)]
      exact a2 i hi
    · exact a3 i hi
  · rw [hM.people]
    refine re_ (s 2) 0 (fun z => ?_) (fun z => ⟨rfl, hR1⟩)
    rcases v.2.1 with y | y <;> omega
theorem sim_restore (k : Nat) (MX MM : Mm) (hk : k < 512) (hR : Rel k MX MM) : w_X11_restore MX (fun r MX1 => w_X12_restore MM (fun r1 MM1 => r = r1 ∧ Rel (k + 1) MX1 MM1)) := by
  have hR1 := hR.up
  obtain ⟨s, f, pn, pg, cr, cs, hX, hM, v, ⟨p1, p2, p3, p4⟩, ⟨c1, c2, c3, c4, c5, c6⟩, h6⟩ := hR
  unfold w_X11_restore w_X12_restore
  rcases h6 with ⟨g1, g2⟩ | ⟨g1, g2, g3, s2, f2, g4, g5, g6, g7, g8, g9⟩
  · refine pn_t g1 ?_
    rcases g2 with g2 | ⟨g2, e, he, g3⟩
    · exact pb_t g2 ⟨rfl, hR1⟩
    · refine pb_f (by rw [g2]; decide) (pb_f ?_ ⟨rfl, hR1⟩)
      rw [g3, c2]
      exact fun z => absurd ((nI_eq (by omega) (by omega)).mp z) (by omega)
  · refine pn_f (by rw [g1]; decide) ?_
    refine sX_copy (Or.inl (by decide)) g4 (fun M3 x3 o3 => ?_)
    have hs2 := g6.1.2.2.1
    refine sX_sum (H3_people x3) hs2 (g := f2 7) (fun i hi => H3_took x3 (by omega)) ?_
    refine pb_f (by rw [g2]; decide) (pb_t (by rw [g3, c2]) ?_)
    intro N1 d1 N2 d2
    obtain ⟨k1, k2, k3, k4⟩ := g5
    have y0 : ∀ n, n ≠ 0 → N2.1 n = MM.1 n := fun n hn => by rw [cpo d2 hn, cpo d1 hn]
    have y1 : ∀ j, j ≠ 12 → j ≠ 14 → N2.1 0 j = MM.1 0 j := fun j a b => by rw [d2, wI_same, pk_un b, d1, wI_same, pk_un a]
    have y12 : N2.1 0 12 = nI (s2 3) := by rw [d2, wI_same, pk_un (by decide), d1, wI_same, pk_us, k1.1]
    have y14 : N2.1 0 14 = nI (s2 4) := by rw [d2, wI_same, pk_us, d1, wI_same, pk_un (by decide), k1.2]
    refine ⟨8, lp_r7 (g := fun _ i => nI (f2 2 i)) (M0 := N2) (fun i hi => by rw [y0 24 (by decide)]; exact k2 i hi) (fun P1 a1 b1 => ?_) 7 0 N2 rfl (fun i hi => absurd hi (by omega)) (fun n _ => rfl)⟩
    refine ⟨6, lp_r5 (g := fun d i => nI (f2 (d - 1) i)) (M0 := P1) (fun i hi => ?_) (fun P2 a2 b2 => ?_) 5 0 P1 rfl (fun i hi => absurd hi (by omega)) (fun n _ _ _ _ => rfl)⟩
    · rw [b1 25 (by decide), b1 26 (by decide), b1 27 (by decide), b1 28 (by decide), y0 25 (by decide), y0 26 (by decide), y0 27 (by decide), y0 28 (by decide)]
      exact k3 i hi
    refine ⟨7, lp_r6 (g := fun d i => enc (d - 1) (f2 (d - 1) i)) (M0 := P2) (fun i hi => ?_) (fun P3 a3 b3 => ?_) 6 0 P2 rfl (fun i hi => absurd hi (by omega)) (fun n _ _ _ _ => rfl)⟩
    · have z9 : ∀ n, 29 ≤ n → n ≤ 32 → P2.1 n = MM.1 n := fun n h1 h2 => by rw [b2 n (by omega) (by omega) (by omega) (by omega), b1 n (by omega), y0 n (by omega)]
      rw [z9 29 (by decide) (by decide), z9 30 (by decide) (by decide), z9 31 (by decide) (by decide), z9 32 (by decide) (by decide)]
      exact k4 i hi
    have z0 : ∀ n, n ≠ 3 → n ≠ 5 → n ≠ 6 → n ≠ 7 → n ≠ 8 → n ≠ 9 → n ≠ 10 → n ≠ 11 → n ≠ 12 → P3.1 n = N2.1 n := fun n h1 h2 h3 h4 h5 h6 h7 h8 h9 => by rw [b3 n h6 h7 h8 h9, b2 n h2 h3 h4 h5, b1 n h1]
    have z00 : P3.1 0 = N2.1 0 := z0 0 (by decide) (by decide) (by decide) (by decide) (by decide) (by decide) (by decide) (by decide) (by decide)
    have hM3 : HM P3 s2 f2 := by
      refine ⟨fun j hj => ?_, fun j i hj hi => ?_⟩
      · show P3.1 0 (slM j) = nI (s2 j)
        rw [z00]
        rcases pk5 hj with rfl | rfl | rfl | rfl | rfl
        · rw [g7.1]; exact (y1 1 (by decide) (by decide)).trans hM.rooms
        · rw [g7.2.1]; exact (y1 2 (by decide) (by decide)).trans hM.passages
        · rw [g7.2.2]; exact (y1 3 (by decide) (by decide)).trans hM.people
        · exact y12
        · exact y14
      · show P3.1 (1 + j) i = enc j (f2 j i)
        rcases (show j = 0 ∨ j = 1 ∨ j = 2 ∨ j = 3 ∨ j = 4 ∨ j = 5 ∨ j = 6 ∨ j = 7 ∨ j = 8 ∨ j = 9 ∨ j = 10 ∨ j = 11 by omega) with rfl | rfl | rfl | rfl | rfl | rfl | rfl | rfl | rfl | rfl | rfl | rfl
        · rw [(g8 i hi).1]
          exact (congrFun ((z0 1 (by decide) (by decide) (by decide) (by decide) (by decide) (by decide) (by decide) (by decide) (by decide)).trans (y0 1 (by decide))) i).trans (hM.one hi)
        · rw [(g8 i hi).2]
          exact (congrFun ((z0 2 (by decide) (by decide) (by decide) (by decide) (by decide) (by decide) (by decide) (by decide) (by decide)).trans (y0 2 (by decide))) i).trans (hM.other hi)
        · exact (congrFun ((b3 3 (by decide) (by decide) (by decide) (by decide)).trans (b2 3 (by decide) (by decide) (by decide) (by decide))) i).trans (a1 i hi)
        · rw [g9 i hi]
          exact (congrFun ((z0 4 (by decide) (by decide) (by decide) (by decide) (by decide) (by decide) (by decide) (by decide) (by decide)).trans (y0 4 (by decide))) i).trans (hM.kind hi)
        · exact (congrFun (b3 5 (by decide) (by decide) (by decide) (by decide)) i).trans (a2 i hi).1
        · exact (congrFun (b3 6 (by decide) (by decide) (by decide) (by decide)) i).trans (a2 i hi).2.1
        · exact (congrFun (b3 7 (by decide) (by decide) (by decide) (by decide)) i).trans (a2 i hi).2.2.1
        · exact (congrFun (b3 8 (by decide) (by decide) (by decide) (by decide)) i).trans (a2 i hi).2.2.2
        · exact (a3 i hi).1
        · exact (a3 i hi).2.1
        · exact (a3 i hi).2.2.1
        · exact (a3 i hi).2.2.2
    refine sM_tookAll hM3.people hs2 (g := f2 7) (fun i hi => hM3.took (by omega)) ⟨rfl, ?_⟩
    have zr : ∀ n, 13 ≤ n → P3.1 n = MM.1 n := fun n hn => (z0 n (by omega) (by omega) (by omega) (by omega) (by omega) (by omega) (by omega) (by omega) (by omega)).trans (y0 n (by omega))
    have zs : ∀ j, j ≠ 12 → j ≠ 14 → P3.1 0 j = MM.1 0 j := fun j a b => by rw [z00, y1 j a b]
    refine ⟨s2, f2, pn, pg, cr, cs, x3, hM3, g6, ⟨by rw [o3 1 (by omega)]; exact p1, by rw [zs 19 (by decide) (by decide)]; exact p2, p3, fun i hi => by rw [o3 2 (by omega), zr 13 (by decide)]; exact p4 i hi⟩, ⟨by rw [o3 0 (by omega)]; exact c1, by rw [zs 0 (by decide) (by decide)]; exact c2, by omega, by rw [o3 0 (by omega)]; exact c4, by rw [zs 13 (by decide) (by decide)]; exact c5, c6⟩, Or.inr ⟨by rw [o3 0 (by omega)]; exact g1, by rw [zs 35 (by decide) (by decide)]; exact g2, by rw [zs 36 (by decide) (by decide)]; exact g3, s2, f2, g4.cg (fun n a b => o3 n (by omega)), ⟨⟨by rw [zs 37 (by decide) (by decide)]; exact k1.1, by rw [zs 38 (by decide) (by decide)]; exact k1.2⟩, fun i hi => by rw [zr 24 (by decide)]; exact k2 i hi, fun i hi => by rw [zr 25 (by decide), zr 26 (by decide), zr 27 (by decide), zr 28 (by decide)]; exact k3 i hi, fun i hi => by rw [zr 29 (by decide), zr 30 (by decide), zr 31 (by decide), zr 32 (by decide)]; exact k4 i hi⟩, g6, ⟨rfl, rfl, rfl⟩, fun _ _ => ⟨rfl, rfl⟩, fun _ _ => rfl⟩⟩
/-! ===== lies one can have told; what to ask ===== -/
theorem wI_back {M : Mm} {r i : Nat} {x : Int32} : wI (wI M r (upd (M.1 r) i x)) r (upd ((wI M r (upd (M.1 r) i x)).1 r) i (M.1 r i)) = M := by
  refine Prod.ext ?_ rfl
  funext n
  by_cases hn : n = r
  · subst hn
    rw [wI_same, wI_same]
    funext j
    by_cases hj : j = i
    · rw [hj, pk_us]
    · rw [pk_un hj, pk_un hj]
  · rw [wI_ne _ _ hn, wI_ne _ _ hn]
theorem stp_up {f : Nat → Nat → Nat} {i p w li : Nat} (hne : w ≠ i + 1) : stp (upf f 5 i li) i p w (upf f 5 i li 5 i) = stp f i p w li := by
  unfold stp
  by_cases z : w = 0
  · rw [if_pos z, if_pos z, upf_s, upf_n (by omega), upf_n (by omega), upf_n (by omega)]
  · have e5 : upf f 5 i li 5 (w - 1) = f 5 (w - 1) := upf_n (by omega)
    rw [if_neg z, if_neg z, upf_s, e5, upf_n (by omega), upf_n (by omega), upf_n (by omega), upf_n (by omega), upf_n (by omega)]
theorem Vt.lies {T : Nat} {s : Nat → Nat} {f : Nat → Nat → Nat} (v : Vt T s f) {i li : Nat} (hl : li ≤ 9) : Vt T s (upf f 5 i li) := by
  refine ⟨v.1, v.2.1, fun p hp => ?_, fun a ha => ?_, fun a ha => ?_⟩
  · rw [upf_n (by omega), upf_n (by omega), upf_n (by omega)]
    exact v.2.2.1 p hp
  · have va := v.2.2.2.1 a ha
    have e5 : upf f 5 i li 5 a ≤ 9 := by
      by_cases z : a = i
      · rw [z, upf_s]; exact hl
      · rw [upf_n (by omega)]; omega
    refine ⟨by rw [upf_n (by omega)]; omega, by rw [upf_n (by omega)]; omega, e5, by rw [upf_n (by omega)]; omega, by rw [upf_n (by omega)]; omega⟩
  · rw [upf_n (by omega), upf_n (by omega), upf_n (by omega), upf_n (by omega)]
    exact v.2.2.2.2 a ha
theorem sM_stepsWith {i p w li : Nat} {M : Mm} {s : Nat → Nat} {f : Nat → Nat → Nat} {post : Int32 → Mm → Prop} {T : Nat} (hM : HM M s f) (hV : Vt T s f) (hi : i < s 2) (hp : p < s 1) (hw : w ≤ s 2) (hne : w ≠ i + 1) (hl : li ≤ 9) (h : post (nI (stp f i p w li)) M) : w_X12_stepsWith (nI i) (nI li) (nI p) (nI w - 1) M post := by
  have hs := hV.1.2.2.1
  unfold w_X12_stepsWith
  refine ⟨vp_i (by omega) (by decide), fun M2 e2 => ?_⟩
  rw [cl_i (show i < 2 ^ 31 by omega)] at e2
  have h2 := hM.wr 5 i li e2
  refine sM_stepsOf h2 (hV.lies hl) hi hp hw (fun M7 e7 => ?_)
  rw [cl_i (show i < 2 ^ 31 by omega), e2, wI_back] at e7
  rw [e7, stp_up hne]
  exact h
theorem yd_mono (k len de : Nat) {a b : Nat} (h : a ≤ b) : yd k len de a ≤ yd k len de b := by
  unfold yd
  split
  · omega
  · split
    · omega
    · split
      · omega
      · split
        · omega
        · omega
theorem stp_mono (f : Nat → Nat → Nat) (i p w : Nat) {a b : Nat} (h : a ≤ b) : stp f i p w a ≤ stp f i p w b := by
  have y := yd_mono (f 3 i) (f 2 p) (f 4 i) h
  unfold stp
  split
  · exact y
  · omega
def okU (f : Nat → Nat → Nat) (i li : Nat) : Nat → Nat → Bool
  | 0, _ => true
  | m + 1, v => if f 8 v = i then (if f 11 v = stp f i (f 9 v) (f 10 v) li then okU f i li m (v + 1) else false) else okU f i li m (v + 1)
theorem sX_asSeen {i li : Nat} {M : Mm} {s : Nat → Nat} {f : Nat → Nat → Nat} {post : Int32 → Mm → Prop} {T : Nat} (hX : HX 3 M s f) (hV : Vt T s f) (hi : i < s 2) (hl : li ≤ 9) (h1 : okU f i li (s 4) 0 = true → post 1 M) (h0 : okU f i li (s 4) 0 = false → post 0 M) : w_X7_isAsSeen (nI i) (nI li) M post := by
  have hs := hV.1.2.2.1
  have hs4 := hV.1.2.2.2
  have key : ∀ m v, v + m = s 4 → (okU f i li m v = true → post 1 M) → (okU f i li m v = false → post 0 M) → w_X7_isAsSeen_2 post (m + 1) (nI i) (nI li) (nI v) M := by
    intro m
    induction m with
    | zero =>
      intro v hv g1 g0
      exact pk_le (s 4) v (fun _ => g1 rfl) (fun z => absurd z (by omega)) (H3_seen hX)
    | succ m ih =>
      intro v hv g1 g0
      have vs := hV.2.2.2.2 v (by omega)
      refine pk_le (s 4) v (fun z => absurd z (by omega)) (fun _ => pk_le 6 v (fun z => absurd z (by omega)) (fun _ => ⟨vp_i (by omega) (by decide), ?_⟩)) (H3_seen hX)
      rw [cl_i (by omega), H3_sper hX (by omega), H3_spas hX (by omega), H3_swith hX (by omega), H3_sstep hX (by omega), nI_1]
      unfold okU at g1 g0
      refine re_ (f 8 v) i (fun z => ?_) (fun z => ?_)
      · rw [if_neg z] at g1 g0
        exact ih (v + 1) (by omega) g1 g0
      · rw [if_pos z] at g1 g0
        refine sX_swl (by decide) hX hV hi vs.2.1 vs.2.2.1 hl ?_
        have st := stp_le hV hi vs.2.1 vs.2.2.1 hl
        refine pk_eq (f 11 v) (stp f i (f 9 v) (f 10 v) li) (fun y => ?_) (fun y => ?_)
        · rw [if_pos y] at g1 g0
          exact ih (v + 1) (by omega) g1 g0
        · rw [if_neg y] at g1 g0
          exact g0 rfl
  exact ⟨s 4 + 1, key (s 4) 0 (by omega) h1 h0⟩
def bi (ok : Nat → Bool) : Nat → Nat → Int32 → Int32
  | 0, _, acc => acc
  | m + 1, v, acc => bi ok m (v + 1) (if ok v = true then acc ||| ((1 : Int32) <<< (nI v &&& 31)) else acc)
def plB (s : Nat → Nat) (f : Nat → Nat → Nat) (i : Nat) : Int32 := bi (fun li => okU f i li (s 4) 0) 10 0 0
theorem sX_lies {i : Nat} {M : Mm} {s : Nat → Nat} {f : Nat → Nat → Nat} {post : Int32 → Mm → Prop} {T : Nat} (hX : HX 3 M s f) (hV : Vt T s f) (hi : i < s 2) (h : post (plB s f i) M) : w_X7_possibleLies (nI i) M post := by
  have key : ∀ m v acc, v + m = 10 → post (bi (fun li => okU f i li (s 4) 0) m v acc) M → w_X7_possibleLies_4 post (m + 1) (nI i) acc (nI v) M := by
    intro m
    induction m with
    | zero =>
      intro v acc hv g
      exact pk_lt 9 v (fun _ => g) (fun z => absurd z (by omega))
    | succ m ih =>
      intro v acc hv g
      refine pk_lt 9 v (fun z => absurd z (by omega)) (fun _ => sX_asSeen hX hV hi (by omega) (fun y => pb_1 ?_) (fun y => pb_0 ?_))
      · rw [nI_1]
        refine ih (v + 1) _ (by omega) ?_
        have g' : post (bi (fun li => okU f i li (s 4) 0) m (v + 1) (if okU f i v (s 4) 0 = true then acc ||| ((1 : Int32) <<< (nI v &&& 31)) else acc)) M := g
        rw [if_pos y] at g'
        exact g'
      · rw [nI_1]
        refine ih (v + 1) _ (by omega) ?_
        have g' : post (bi (fun li => okU f i li (s 4) 0) m (v + 1) (if okU f i v (s 4) 0 = true then acc ||| ((1 : Int32) <<< (nI v &&& 31)) else acc)) M := g
        rw [if_neg (by rw [y]; decide)] at g'
        exact g'
  exact ⟨11, key 10 0 0 rfl h⟩
theorem or_0 (x : Int32) : x ||| 0 = x := by
  apply Int32.toBitVec_inj.mp
  show x.toBitVec ||| (0 : Int32).toBitVec = x.toBitVec
  exact BitVec.or_zero
theorem sM_lies {i : Nat} {M : Mm} {s : Nat → Nat} {f : Nat → Nat → Nat} {post : Int32 → Mm → Prop} {T : Nat} (hM : HM M s f) (hV : Vt T s f) (hi : i < s 2) (h : post (plB s f i) M) : w_X12_liesBits (nI i) M post := by
  have hs := hV.1.2.2.1
  have hs4 := hV.1.2.2.2
  have zer : ∀ (k4 : Int32 → Int32 → Int32 → Mm → Prop) (li : Nat) (acc : Int32) (m v : Nat), v + m = s 4 → k4 (nI i) (acc ||| 0) (nI li + 1) M → w_X12_liesBits_16 post k4 (m + 1) (nI i) acc (nI li) 0 (nI v) M := by
    intro k4 li acc m
    induction m with
    | zero =>
      intro v hv g
      exact pk_le (s 4) v (fun _ => pb_0 g) (fun z => absurd z (by omega)) hM.seen
    | succ m ih =>
      intro v hv g
      refine pk_le (s 4) v (fun z => absurd z (by omega)) (fun _ => pb_0 ?_) hM.seen
      rw [nI_1]
      exact ih (v + 1) (by omega) g
  have one : ∀ (k4 : Int32 → Int32 → Int32 → Mm → Prop) (li : Nat) (hl : li ≤ 9) (acc : Int32) (m v : Nat), v + m = s 4 → (okU f i li m v = true → k4 (nI i) (acc ||| ((1 : Int32) <<< (nI li &&& 31))) (nI li + 1) M) → (okU f i li m v = false → k4 (nI i) (acc ||| 0) (nI li + 1) M) → w_X12_liesBits_16 post k4 (m + 1) (nI i) acc (nI li) 1 (nI v) M := by
    intro k4 li hl acc m
    induction m with
    | zero =>
      intro v hv g1 g0
      exact pk_le (s 4) v (fun _ => pb_1 (g1 rfl)) (fun z => absurd z (by omega)) hM.seen
    | succ m ih =>
      intro v hv g1 g0
      have vs := hV.2.2.2.2 v (by omega)
      refine pk_le (s 4) v (fun z => absurd z (by omega)) (fun _ => pb_1 ⟨vp_i (by omega) (by decide), ?_⟩) hM.seen
      rw [cl_i (by omega), hM.sper (by omega), hM.spas (by omega), hM.swith (by omega)]
      unfold okU at g1 g0
      unfold w_X12_liesBits_71
      rw [nI_1]
      refine re_ (f 8 v) i (fun z => ?_) (fun z => ?_)
      · rw [if_neg z] at g1 g0
        exact ih (v + 1) (by omega) g1 g0
      · rw [if_pos z] at g1 g0
        refine sM_stepsWith hM hV hi vs.2.1 vs.2.2.1 (by omega) hl ?_
        have st := stp_le hV hi vs.2.1 vs.2.2.1 hl
        rw [hM.sstep (by omega)]
        refine re_ (stp f i (f 9 v) (f 10 v) li) (f 11 v) (fun y => ?_) (fun y => ?_)
        · rw [if_neg (fun q => y q.symm)] at g1 g0
          exact zer k4 li acc m (v + 1) (by omega) (g0 rfl)
        · rw [if_pos y.symm] at g1 g0
          exact ih (v + 1) (by omega) g1 g0
  have key : ∀ m v acc, v + m = 10 → post (bi (fun li => okU f i li (s 4) 0) m v acc) M → w_X12_liesBits_4 post (m + 1) (nI i) acc (nI v) M := by
    intro m
    induction m with
    | zero =>
      intro v acc hv g
      exact pk_lt 9 v (fun _ => g) (fun z => absurd z (by omega))
    | succ m ih =>
      intro v acc hv g
      refine pk_lt 9 v (fun z => absurd z (by omega)) (fun _ => ⟨s 4 + 1, one _ v (by omega) acc (s 4) 0 (by omega) (fun y => ?_) (fun y => ?_)⟩)
      · rw [nI_1]
        refine ih (v + 1) _ (by omega) ?_
        have g' : post (bi (fun li => okU f i li (s 4) 0) m (v + 1) (if okU f i v (s 4) 0 = true then acc ||| ((1 : Int32) <<< (nI v &&& 31)) else acc)) M := g
        rw [if_pos y] at g'
        exact g'
      · rw [nI_1, or_0]
        refine ih (v + 1) _ (by omega) ?_
        have g' : post (bi (fun li => okU f i li (s 4) 0) m (v + 1) (if okU f i v (s 4) 0 = true then acc ||| ((1 : Int32) <<< (nI v &&& 31)) else acc)) M := g
        rw [if_neg (by rw [y]; decide)] at g'
        exact g'
  exact ⟨11, key 10 0 0 rfl h⟩
/-! like steps: runs against pairs -/
def cn (S : Nat → Bool) (st : Nat → Nat) (v : Nat) : Nat → Nat
  | 0 => 0
  | n + 1 => cn S st v n + (if S n = true ∧ st n = st v then 1 else 0)
def wm (S : Nat → Bool) (st : Nat → Nat) (N : Nat) : Nat → Nat
  | 0 => 0
  | k + 1 => max (wm S st N k) (if S k = true then cn S st k N else 0)
theorem cn_eq {S : Nat → Bool} {st : Nat → Nat} {u v : Nat} (h : st u = st v) (n : Nat) : cn S st u n = cn S st v n := by
  induction n with
  | zero => rfl
  | succ n ih =>
    show cn S st u n + _ = cn S st v n + _
    rw [ih, h]
theorem cn_le (S : Nat → Bool) (st : Nat → Nat) (v n : Nat) : cn S st v n ≤ n := by
  induction n with
  | zero => exact Nat.le_refl _
  | succ n ih =>
    show cn S st v n + _ ≤ _
    split <;> omega
theorem wm_le (S : Nat → Bool) (st : Nat → Nat) (N k : Nat) : wm S st N k ≤ N := by
  induction k with
  | zero => exact Nat.zero_le _
  | succ k ih =>
    show max (wm S st N k) _ ≤ N
    have := cn_le S st k N
    split <;> omega
theorem wm_step (S : Nat → Bool) (st : Nat → Nat) (n k : Nat) : wm S st n k ≤ wm S st (n + 1) k ∧ wm S st (n + 1) k ≤ max (wm S st n k) (if S n = true then cn S st n (n + 1) else 0) := by
  induction k with
  | zero => exact ⟨Nat.le_refl _, Nat.zero_le _⟩
  | succ k ih =>
    obtain ⟨i1, i2⟩ := ih
    show max (wm S st n k) (if S k = true then cn S st k n else 0) ≤ max (wm S st (n + 1) k) (if S k = true then cn S st k (n + 1) else 0) ∧ max (wm S st (n + 1) k) (if S k = true then cn S st k (n + 1) else 0) ≤ max (max (wm S st n k) (if S k = true then cn S st k n else 0)) (if S n = true then cn S st n (n + 1) else 0)
    have e : cn S st k (n + 1) = cn S st k n + (if S n = true ∧ st n = st k then 1 else 0) := rfl
    by_cases sk : S k = true
    · rw [if_pos sk, if_pos sk]
      by_cases c : S n = true ∧ st n = st k
      · have e2 : cn S st n (n + 1) = cn S st k (n + 1) := cn_eq c.2 _
        rw [if_pos c] at e
        rw [if_pos c.1] at i2 ⊢
        omega
      · rw [if_neg c] at e
        omega
    · rw [if_neg sk, if_neg sk]
      omega
theorem wm_diag (S : Nat → Bool) (st : Nat → Nat) (n : Nat) : wm S st (n + 1) (n + 1) = max (wm S st n n) (if S n = true then cn S st n (n + 1) else 0) := by
  have h := wm_step S st n n
  show max (wm S st (n + 1) n) (if S n = true then cn S st n (n + 1) else 0) = _
  omega
def tS (x : Int32) (v : Nat) : Bool := decide (¬ ((x >>> (nI v &&& 31)) &&& (1 : Int32)) = 0)
theorem and1 (x : Int32) : x &&& (1 : Int32) = 0 ∨ x &&& (1 : Int32) = 1 := by
  obtain ⟨j, hj, e⟩ := pk_andE x (m := 1) 1 (by decide)
  rcases (show j = 0 ∨ j = 1 by omega) with rfl | rfl
  · exact Or.inl e
  · exact Or.inr e
theorem sM_isIn {x : Int32} {v : Nat} {M : Mm} {post : Int32 → Mm → Prop} (h1 : tS x v = true → post 1 M) (h0 : tS x v = false → post 0 M) : w_X12_isIn x (nI v) M post := by
  unfold w_X12_isIn
  have d : tS x v = decide (¬ ((x >>> (nI v &&& 31)) &&& (1 : Int32)) = 0) := rfl
  rcases and1 (x >>> (nI v &&& 31)) with e | e
  · rw [e] at d ⊢
    exact pn_f (by decide) (h0 (by rw [d]; decide))
  · rw [e] at d ⊢
    exact pn_t rfl (h1 (by rw [d]; decide))
def lw (f : Nat → Nat → Nat) (x : Int32) (i p w : Nat) : Nat := wm (tS x) (fun li => stp f i p w li) 10 10
theorem max_i {a b : Nat} (ha : a < 2 ^ 31) (hb : b < 2 ^ 31) : (if nI a < nI b then nI b else nI a) = nI (max a b) := by
  by_cases z : a < b
  · rw [if_pos (nI_lt z hb)]
    exact congrArg nI (by omega)
  · rw [if_neg (nI_nlt (by omega) ha)]
    exact congrArg nI (by omega)
theorem sX_worst {i p w : Nat} {x : Int32} {M : Mm} {s : Nat → Nat} {f : Nat → Nat → Nat} {post : Int32 → Mm → Prop} {T : Nat} (hX : HX 3 M s f) (hV : Vt T s f) (hi : i < s 2) (hp : p < s 1) (hw : w ≤ s 2) (h : post (nI (lw f x i p w)) M) : w_X7_leftAtWorst (nI i) (nI p) (nI w - 1) x M post := by
  have key : ∀ m n, n + m = 10 → ∀ (al : Nat) (be : Int32), (((∀ u, u < n → tS x u = false) ∧ al = 0 ∧ be = -1) ∨ (∃ l, l < n ∧ tS x l = true ∧ (∀ u, l < u → u < n → tS x u = false) ∧ be = nI (stp f i p w l) ∧ al = cn (tS x) (fun li => stp f i p w li) l n)) → w_X7_leftAtWorst_12 post (m + 1) (nI i) (nI p) (nI w - 1) x (nI (wm (tS x) (fun li => stp f i p w li) n n)) (nI al) be (nI n) M := by
    intro m
    induction m with
    | zero =>
      intro n hn al be _
      obtain rfl : n = 10 := by omega
      exact pb_t (by decide) h
    | succ m ih =>
      intro n hn al be hI
      refine pk_lt 9 n (fun z => absurd z (by omega)) (fun _ => ?_)
      have d : tS x n = decide (¬ ((x >>> (nI n &&& 31)) &&& (1 : Int32)) = 0) := rfl
      have dg := wm_diag (tS x) (fun li => stp f i p w li) n
      refine ⟨fun z => ?_, fun z => ?_⟩
      · have d0 : tS x n = false := by rw [d]; simp [z]
        rw [if_neg (by rw [d0]; decide)] at dg
        rw [nI_1, show wm (tS x) (fun li => stp f i p w li) n n = wm (tS x) (fun li => stp f i p w li) (n + 1) (n + 1) by omega]
        refine ih (n + 1) (by omega) al be ?_
        rcases hI with ⟨a, b, c⟩ | ⟨l, a, b, c, e, g⟩
        · refine Or.inl ⟨fun u hu => ?_, b, c⟩
          by_cases y : u = n
          · rw [y]; exact d0
          · exact a u (by omega)
        · refine Or.inr ⟨l, by omega, b, fun u h1 h2 => ?_, e, ?_⟩
          · by_cases y : u = n
            · rw [y]; exact d0
            · exact c u h1 (by omega)
          · show al = cn (tS x) (fun li => stp f i p w li) l n + (if tS x n = true ∧ stp f i p w n = stp f i p w l then 1 else 0)
            rw [if_neg (by rw [d0]; simp)]
            exact g
      · have d1 : tS x n = true := by rw [d]; simp [z]
        rw [if_pos d1] at dg
        have cnn : cn (tS x) (fun li => stp f i p w li) n (n + 1) = cn (tS x) (fun li => stp f i p w li) n n + 1 := by
          show cn (tS x) (fun li => stp f i p w li) n n + (if tS x n = true ∧ stp f i p w n = stp f i p w n then 1 else 0) = _
          rw [if_pos ⟨d1, rfl⟩]
        have st := stp_le hV hi hp hw (li := n) (by omega)
        have wl := wm_le (tS x) (fun li => stp f i p w li) n n
        have cl := cn_le (tS x) (fun li => stp f i p w li) n (n + 1)
        refine sX_swl (by decide) hX hV hi hp hw (by omega) ?_
        have fin : ∀ a : Nat, a = cn (tS x) (fun li => stp f i p w li) n (n + 1) → w_X7_leftAtWorst_55 post (w_X7_leftAtWorst_12 post (m + 1)) (nI i) (nI p) (nI w - 1) x (nI (wm (tS x) (fun li => stp f i p w li) n n)) (nI n) (nI (stp f i p w n)) (nI a) M := by
          intro a ha
          unfold w_X7_leftAtWorst_55
          rw [max_i (by omega) (by omega), nI_1, ha, ← dg]
          refine ih (n + 1) (by omega) _ _ (Or.inr ⟨n, by omega, d1, fun u h1 h2 => absurd h1 (by omega), rfl, rfl⟩)
        rcases hI with ⟨a, b, c⟩ | ⟨l, a, b, c, e, g⟩
        · rw [c]
          refine pn_f (ne_m1 (by omega)) (fin 1 ?_)
          have z0 : ∀ k, k ≤ n → cn (tS x) (fun li => stp f i p w li) n k = 0 := by
            intro k
            induction k with
            | zero => intro _; rfl
            | succ k ih2 =>
              intro hk
              show cn (tS x) (fun li => stp f i p w li) n k + (if tS x k = true ∧ stp f i p w k = stp f i p w n then 1 else 0) = 0
              rw [ih2 (by omega), if_neg (by rw [a k (by omega)]; simp)]
          rw [cnn, z0 n (Nat.le_refl _)]
        · have sl := stp_le hV hi hp hw (li := l) (by omega)
          rw [e]
          refine re_ (stp f i p w n) (stp f i p w l) (fun y => fin 1 ?_) (fun y => ?_)
          · have z0 : ∀ k, k ≤ n → cn (tS x) (fun li => stp f i p w li) n k = 0 := by
              intro k
              induction k with
              | zero => intro _; rfl
              | succ k ih2 =>
                intro hk
                show cn (tS x) (fun li => stp f i p w li) n k + (if tS x k = true ∧ stp f i p w k = stp f i p w n then 1 else 0) = 0
                rw [ih2 (by omega), if_neg]
                intro q
                by_cases y1 : k ≤ l
                · have m1 := stp_mono f i p w y1
                  have m2 := stp_mono f i p w (show l ≤ n by omega)
                  omega
                · have := c k (by omega) (by omega)
                  rw [this] at q
                  exact absurd q.1 (by decide)
            rw [cnn, z0 n (Nat.le_refl _)]
          · rw [nI_1]
            refine fin (al + 1) ?_
            rw [cnn, g, cn_eq (S := tS x) (st := fun li => stp f i p w li) (u := n) (v := l) y n]
  exact ⟨11, key 10 0 rfl 0 (-1) (Or.inl ⟨fun u hu => absurd hu (by omega), rfl, rfl⟩)⟩
theorem sM_worst {i p w : Nat} {x : Int32} {M : Mm} {s : Nat → Nat} {f : Nat → Nat → Nat} {post : Int32 → Mm → Prop} {T : Nat} (hM : HM M s f) (hV : Vt T s f) (hi : i < s 2) (hp : p < s 1) (hw : w ≤ s 2) (hne : w ≠ i + 1) (h : post (nI (lw f x i p w)) M) : w_X12_worstBy (nI i) x (nI p) (nI w - 1) M post := by
  have inn : ∀ (k6 : Int32 → Int32 → Int32 → Int32 → Int32 → Int32 → Mm → Prop) (a v : Nat) (hv : v ≤ 9) (ha : a ≤ 10), (k6 (nI i) x (nI p) (nI w - 1) (nI (max a (if tS x v = true then cn (tS x) (fun li => stp f i p w li) v 10 else 0))) (nI v + 1) M) → ∀ m n, n + m = 10 → w_X12_worstBy_19 post k6 (m + 1) (nI i) x (nI p) (nI w - 1) (nI a) (nI v) (nI (if tS x v = true then cn (tS x) (fun li => stp f i p w li) v n else 0)) (nI n) M := by
    intro k6 a v hv ha g m
    induction m with
    | zero =>
      intro n hn
      obtain rfl : n = 10 := by omega
      have cl := cn_le (tS x) (fun li => stp f i p w li) v 10
      refine pb_t (by decide) ?_
      have cl2 : (if tS x v = true then cn (tS x) (fun li => stp f i p w li) v 10 else 0) ≤ 10 := by split <;> omega
      refine pk_le _ a (fun z => ?_) (fun z => ?_) rfl rfl (by omega) (by omega)
      · rw [show max a (if tS x v = true then cn (tS x) (fun li => stp f i p w li) v 10 else 0) = a by omega] at g
        exact g
      · rw [show max a (if tS x v = true then cn (tS x) (fun li => stp f i p w li) v 10 else 0) = (if tS x v = true then cn (tS x) (fun li => stp f i p w li) v 10 else 0) by omega] at g
        exact g
    | succ m ih =>
      intro n hn
      have ihn := ih (n + 1) (by omega)
      refine pk_lt 9 n (fun z => absurd z (by omega)) (fun _ => sM_isIn (fun y1 => pb_1 ?_) (fun y1 => pb_0 ?_))
      · rw [if_pos y1] at ihn ⊢
        have e : cn (tS x) (fun li => stp f i p w li) v (n + 1) = cn (tS x) (fun li => stp f i p w li) v n + (if tS x n = true ∧ stp f i p w n = stp f i p w v then 1 else 0) := rfl
        refine sM_isIn (fun y2 => pb_1 ?_) (fun y2 => pb_0 ?_)
        · refine sM_stepsWith hM hV hi hp hw hne hv (sM_stepsWith hM hV hi hp hw hne (by omega) ?_)
          have s1 := stp_le hV hi hp hw (li := v) hv
          have s2 := stp_le hV hi hp hw (li := n) (by omega)
          refine re_ (stp f i p w v) (stp f i p w n) (fun y3 => ?_) (fun y3 => ?_)
          · unfold w_X12_worstBy_73
            rw [if_neg (fun q => y3 q.2.symm)] at e
            rw [e] at ihn
            rw [← nI_0, nI_add, nI_1]
            exact ihn
          · rw [if_pos ⟨y2, y3.symm⟩] at e
            rw [e] at ihn
            rw [nI_1, nI_1]
            exact ihn
        · unfold w_X12_worstBy_73
          rw [if_neg (by rw [y2]; simp)] at e
          rw [e] at ihn
          rw [← nI_0, nI_add, nI_1]
          exact ihn
      · rw [if_neg (by rw [y1]; decide)] at ihn ⊢
        unfold w_X12_worstBy_73
        rw [nI_1]
        exact ihn
  have key : ∀ m v, v + m = 10 → w_X12_worstBy_6 post (m + 1) (nI i) x (nI p) (nI w - 1) (nI (wm (tS x) (fun li => stp f i p w li) 10 v)) (nI v) M := by
    intro m
    induction m with
    | zero =>
      intro v hv
      obtain rfl : v = 10 := by omega
      exact pb_t (by decide) h
    | succ m ih =>
      intro v hv
      have wl := wm_le (tS x) (fun li => stp f i p w li) 10 v
      refine pk_lt 9 v (fun z => absurd z (by omega)) (fun _ => ⟨11, ?_⟩)
      have g := inn (w_X12_worstBy_6 post (m + 1)) (wm (tS x) (fun li => stp f i p w li) 10 v) v (by omega) wl (by rw [nI_1]; exact ih (v + 1) (by omega)) 10 0 rfl
      have e0 : (if tS x v = true then cn (tS x) (fun li => stp f i p w li) v 0 else 0) = 0 := by split <;> rfl
      rw [e0] at g
      exact g
  exact ⟨11, key 10 0 rfl⟩
def bqW (f : Nat → Nat → Nat) (x : Int32) (i p : Nat) : Nat → Nat → Int32 × Nat → Int32 × Nat
  | 0, _, c => c
  | m + 1, w, c => bqW f x i p m (w + 1) (if w = i + 1 then c else if lw f x i p w < c.2 then (((10 : Int32) * nI p + (nI w - 1)) + 1, lw f x i p w) else c)
def bqP (s : Nat → Nat) (f : Nat → Nat → Nat) (x : Int32) (i : Nat) : Nat → Nat → Int32 × Nat → Int32 × Nat
  | 0, _, c => c
  | m + 1, p, c => bqP s f x i m (p + 1) (bqW f x i p (s 2 + 1) 0 c)
theorem lw_le (f : Nat → Nat → Nat) (x : Int32) (i p w : Nat) : lw f x i p w ≤ 10 := wm_le _ _ _ _
theorem nI_w1 (w : Nat) : (nI w - 1 : Int32) + 1 = nI (w + 1) - 1 := by
  rw [nI_pred, Int32.sub_add_cancel]
theorem w_le {N w : Nat} (hN : N < 100) (hw : w < 100) : nI N ≤ nI w - 1 ↔ N + 1 ≤ w := by
  rw [Int32.le_iff_toInt_le, nI_toInt (by omega), pm_sub (by omega)]
  omega
theorem w_eq {i w : Nat} (hi : i < 100) (hw : w < 100) : (nI w - 1 : Int32) = nI i ↔ w = i + 1 := by
  constructor
  · intro e
    have h := congrArg Int32.toInt e
    rw [nI_toInt (by omega), pm_sub (by omega)] at h
    omega
  · intro e
    rw [e, nI_pred]
theorem sX_bq {i : Nat} {M : Mm} {s : Nat → Nat} {f : Nat → Nat → Nat} {post : Int32 → Mm → Prop} {T : Nat} (hX : HX 3 M s f) (hV : Vt T s f) (hi : i < s 2) (h : post (if plB s f i = 0 then -1 else (bqP s f (plB s f i) i (s 1) 0 (-1, 11)).1) M) : w_X7_bestQuestion (nI i) M post := by
  have hs := hV.1.2.2.1
  have hs1 := hV.1.2.1
  unfold w_X7_bestQuestion
  refine sX_lies hX hV hi ⟨fun z => ?_, fun z => ?_⟩
  · rw [if_neg z] at h
    generalize plB s f i = x at z h ⊢
    have inn : ∀ (k21 : Int32 → Int32 → Int32 → Int32 → Int32 → Mm → Prop) (p : Nat) (hp : p < s 1), ∀ m w (c : Int32 × Nat), w + m = s 2 + 1 → c.2 ≤ 11 → (∀ c1 : Int32 × Nat, c1 = bqW f x i p m w c → c1.2 ≤ 11 → k21 (nI i) x c1.1 (nI c1.2) (nI p + 1) M) → w_X7_bestQuestion_33 post k21 (m + 1) (nI i) x c.1 (nI c.2) (nI p) (nI w - 1) M := by
      intro k21 p hp m
      induction m with
      | zero =>
        intro w c hw hc g
        refine ⟨fun _ => g c rfl hc, fun y => absurd ?_ y⟩
        rw [H3_people hX]
        exact (w_le (by omega) (by omega)).mpr (by omega)
      | succ m ih =>
        intro w c hw hc g
        refine ⟨fun y => ?_, fun _ => ⟨fun y => ?_, fun y => ?_⟩⟩
        · rw [H3_people hX] at y
          have := (w_le (by omega) (by omega)).mp y
          omega
        · have y' : w ≠ i + 1 := fun q => y ((w_eq (by omega) (by omega)).mpr q)
          refine sX_worst hX hV hi hp (by omega) ?_
          have ll := lw_le f x i p w
          refine pk_le c.2 (lw f x i p w) (fun q => ?_) (fun q => ?_)
          · rw [nI_w1]
            refine ih (w + 1) c (by omega) hc (fun c1 e1 e2 => g c1 ?_ e2)
            rw [e1]
            show _ = bqW f x i p m (w + 1) _
            rw [if_neg y', if_neg (by omega)]
          · rw [nI_w1]
            refine ih (w + 1) (((10 : Int32) * nI p + (nI w - 1)) + 1, lw f x i p w) (by omega) (by show lw f x i p w ≤ 11; omega) (fun c1 e1 e2 => g c1 ?_ e2)
            rw [e1]
            show _ = bqW f x i p m (w + 1) _
            rw [if_neg y', if_pos (by omega)]
        · have y' : w = i + 1 := (w_eq (by omega) (by omega)).mp y
          rw [nI_w1]
          refine ih (w + 1) c (by omega) hc (fun c1 e1 e2 => g c1 ?_ e2)
          rw [e1]
          show _ = bqW f x i p m (w + 1) _
          rw [if_pos y']
    have key : ∀ m p (c : Int32 × Nat), p + m = s 1 → c.2 ≤ 11 → post (bqP s f x i m p c).1 M → w_X7_bestQuestion_21 post (m + 1) (nI i) x c.1 (nI c.2) (nI p) M := by
      intro m
      induction m with
      | zero =>
        intro p c hp hc g
        exact pk_le (s 1) p (fun _ => g) (fun y => absurd y (by omega)) (H3_passages hX)
      | succ m ih =>
        intro p c hp hc g
        refine pk_le (s 1) p (fun y => absurd y (by omega)) (fun _ => ⟨s 2 + 2, ?_⟩) (H3_passages hX)
        rw [← nI_m1]
        refine inn _ p (by omega) (s 2 + 1) 0 c (by omega) hc (fun c1 e1 e2 => ?_)
        rw [nI_1]
        refine ih (p + 1) c1 (by omega) e2 ?_
        rw [e1]
        exact g
    exact ⟨s 1 + 1, key (s 1) 0 (-1, 11) (by omega) (by decide) h⟩
  · rw [if_pos z] at h
    exact h
def fw (n : Nat) : Nat := if n = 11 then 268435456 else n
theorem sM_bq {i : Nat} {M : Mm} {s : Nat → Nat} {f : Nat → Nat → Nat} {post : Int32 → Mm → Prop} {T : Nat} (hM : HM M s f) (hV : Vt T s f) (hi : i < s 2) (h : post (if plB s f i = 0 then -1 else (bqP s f (plB s f i) i (s 1) 0 (-1, 11)).1) M) : w_X12_askOf (nI i) M post := by
  have hs := hV.1.2.2.1
  have hs1 := hV.1.2.1
  unfold w_X12_askOf
  refine sM_lies hM hV hi ?_
  have fwl : ∀ n, n ≤ 11 → fw n ≤ 268435456 := fun n hn => by unfold fw; split <;> omega
  have fwi : ∀ n l, n ≤ 11 → l ≤ 10 → (fw n ≤ l ↔ n ≤ l) := fun n l hn hl => by unfold fw; split <;> omega
  have fws : ∀ n, n ≤ 10 → fw n = n := fun n hn => by unfold fw; rw [if_neg (by omega)]
  by_cases z : plB s f i = 0
  · rw [if_pos z] at h
    rw [z]
    refine ⟨1, ⟨fun _ => h, fun _ => pb_0 h⟩⟩
  · rw [if_neg z] at h
    generalize plB s f i = x at z h ⊢
    have inn : ∀ (k15 : Int32 → Int32 → Int32 → Int32 → Int32 → Mm → Prop) (p : Nat) (hp : p < s 1), ∀ m w (c : Int32 × Nat), w + m = s 2 + 1 → c.2 ≤ 11 → (∀ c1 : Int32 × Nat, c1 = bqW f x i p m w c → c1.2 ≤ 11 → k15 (nI i) x c1.1 (nI (fw c1.2)) (nI p + 1) M) → w_X12_askOf_31 post k15 (m + 1) (nI i) x c.1 (nI (fw c.2)) (nI p) (nI w - 1) M := by
      intro k15 p hp m
      induction m with
      | zero =>
        intro w c hw hc g
        refine ⟨fun _ => g c rfl hc, fun y => absurd ?_ y⟩
        rw [hM.people]
        exact (w_le (by omega) (by omega)).mpr (by omega)
      | succ m ih =>
        intro w c hw hc g
        have f1 := fwl c.2 hc
        refine ⟨fun y => ?_, fun _ => ⟨fun y => ?_, fun y => ?_⟩⟩
        · rw [hM.people] at y
          have := (w_le (by omega) (by omega)).mp y
          omega
        · have y' : w ≠ i + 1 := fun q => y ((w_eq (by omega) (by omega)).mpr q)
          refine sM_worst hM hV hi hp (by omega) y' ?_
          have ll := lw_le f x i p w
          have f2 := fwi c.2 (lw f x i p w) hc ll
          unfold w_X12_askOf_61 w_X12_askOf_84
          refine pk_le (fw c.2) (lw f x i p w) (fun q => pk_le (fw c.2) (lw f x i p w) (fun _ => ?_) (fun q2 => absurd q (by omega))) (fun q => pk_le (fw c.2) (lw f x i p w) (fun q2 => absurd q (by omega)) (fun _ => ?_))
          · rw [nI_w1]
            refine ih (w + 1) c (by omega) hc (fun c1 e1 e2 => g c1 ?_ e2)
            rw [e1]
            show _ = bqW f x i p m (w + 1) _
            rw [if_neg y', if_neg (by omega)]
          · rw [nI_w1]
            have g3 := ih (w + 1) (((10 : Int32) * nI p + (nI w - 1)) + 1, lw f x i p w) (by omega) (by show lw f x i p w ≤ 11; omega) (fun c1 e1 e2 => g c1 (by
              rw [e1]
              show _ = bqW f x i p m (w + 1) _
              rw [if_neg y', if_pos (by omega)]) e2)
            rw [fws (lw f x i p w) ll] at g3
            exact g3
        · have y' : w = i + 1 := (w_eq (by omega) (by omega)).mp y
          unfold w_X12_askOf_61 w_X12_askOf_84
          refine pk_le (fw c.2) 268435456 (fun q => pk_le (fw c.2) 268435456 (fun _ => ?_) (fun q2 => absurd q (by omega))) (fun q => absurd q (by omega))
          rw [nI_w1]
          refine ih (w + 1) c (by omega) hc (fun c1 e1 e2 => g c1 ?_ e2)
          rw [e1]
          show _ = bqW f x i p m (w + 1) _
          rw [if_pos y']
    have key : ∀ m p (c : Int32 × Nat), p + m = s 1 → c.2 ≤ 11 → post (bqP s f x i m p c).1 M → w_X12_askOf_15 post (m + 1) (nI i) x c.1 (nI (fw c.2)) (nI p) M := by
      intro m
      induction m with
      | zero =>
        intro p c hp hc g
        exact pk_le (s 1) p (fun _ => g) (fun y => absurd y (by omega)) hM.passages
      | succ m ih =>
        intro p c hp hc g
        refine pk_le (s 1) p (fun y => absurd y (by omega)) (fun _ => pb_f z ⟨s 2 + 2, ?_⟩) hM.passages
        rw [← nI_m1]
        refine inn _ p (by omega) (s 2 + 1) 0 c (by omega) hc (fun c1 e1 e2 => ?_)
        rw [nI_1]
        refine ih (p + 1) c1 (by omega) e2 ?_
        rw [e1]
        exact g
    exact ⟨s 1 + 1, key (s 1) 0 (-1, 11) (by omega) (by decide) h⟩
/-- what person tells, on both sides -/
theorem person_both {T : Nat} {MX MM : Mm} {s : Nat → Nat} {f : Nat → Nat → Nat} (hX : HX 3 MX s f) (hM : HM MM s f) (hV : Vt T s f) {i : Nat} (hi : i < s 2) (c : Nat) (hc : c ≤ 6) : ∃ v, Ev (w_X11_tellPerson (nI i) (nI c) MX) v MX ∧ Ev (w_X12_personNow (nI i) (nI c) MM) v MM := by
  have hs := hV.1.2.2.1
  have ci : (nI i).toNatClampNeg = i := cl_i (by omega)
  unfold Ev w_X11_tellPerson w_X12_personNow
  rw [ci]
  rcases (show c = 0 ∨ c = 1 ∨ c = 2 ∨ c = 3 ∨ c = 4 ∨ c = 5 ∨ c = 6 by omega) with rfl | rfl | rfl | rfl | rfl | rfl | rfl
  · exact ⟨nI (f 3 i), fun post h => pb_t (by decide) ⟨vp_i (by omega) (by decide), (H3_kind hX (show i < 5 by omega)).symm ▸ h⟩, fun post h => pb_t (by decide) ⟨vp_i (by omega) (by decide), (hM.kind (show i < 5 by omega)).symm ▸ h⟩⟩
  · exact ⟨nI (f 4 i), fun post h => pb_f (by decide) (pb_t (by decide) ⟨vp_i (by omega) (by decide), (H3_deed hX (show i < 5 by omega)).symm ▸ h⟩), fun post h => pb_f (by decide) (pb_t (by decide) ⟨vp_i (by omega) (by decide), (hM.deed (show i < 5 by omega)).symm ▸ h⟩)⟩
  · exact ⟨nI (f 5 i), fun post h => pb_f (by decide) (pb_f (by decide) (pb_t (by decide) ⟨vp_i (by omega) (by decide), (H3_lie hX (show i < 5 by omega)).symm ▸ h⟩)), fun post h => pb_f (by decide) (pb_f (by decide) (pb_t (by decide) ⟨vp_i (by omega) (by decide), (hM.lie (show i < 5 by omega)).symm ▸ h⟩))⟩
  · exact ⟨nI (f 6 i), fun post h => pb_f (by decide) (pb_f (by decide) (pb_f (by decide) (pb_t (by decide) ⟨vp_i (by omega) (by decide), (H3_place hX (show i < 5 by omega)).symm ▸ h⟩))), fun post h => pb_f (by decide) (pb_f (by decide) (pb_f (by decide) (pb_t (by decide) ⟨vp_i (by omega) (by decide), (hM.place (show i < 5 by omega)).symm ▸ h⟩)))⟩
  · exact ⟨nI (f 7 i), fun post h => pb_f (by decide) (pb_f (by decide) (pb_f (by decide) (pb_f (by decide) (pb_t (by decide) ⟨vp_i (by omega) (by decide), (H3_took hX (show i < 5 by omega)).symm ▸ h⟩)))), fun post h => pb_f (by decide) (pb_f (by decide) (pb_f (by decide) (pb_f (by decide) (pb_t (by decide) ⟨vp_i (by omega) (by decide), (hM.took (show i < 5 by omega)).symm ▸ h⟩))))⟩
  · exact ⟨plB s f i, fun post h => pb_f (by decide) (pb_f (by decide) (pb_f (by decide) (pb_f (by decide) (pb_f (by decide) (pb_t (by decide) (sX_lies hX hV hi h)))))), fun post h => pb_f (by decide) (pb_f (by decide) (pb_f (by decide) (pb_f (by decide) (pb_f (by decide) (pb_t (by decide) (sM_lies hM hV hi h))))))⟩
  · exact ⟨if plB s f i = 0 then -1 else (bqP s f (plB s f i) i (s 1) 0 (-1, 11)).1, fun post h => pb_f (by decide) (pb_f (by decide) (pb_f (by decide) (pb_f (by decide) (pb_f (by decide) (pb_f (by decide) (pb_t (by decide) (sX_bq hX hV hi h))))))), fun post h => pb_f (by decide) (pb_f (by decide) (pb_f (by decide) (pb_f (by decide) (pb_f (by decide) (pb_f (by decide) (sM_bq hM hV hi h))))))⟩
theorem sim_person (k : Nat) (MX MM : Mm) (x1 x2 : Int32) (hk : k < 512) (hR : Rel k MX MM) : w_X11_person x1 x2 MX (fun r MX1 => w_X12_person x1 x2 MM (fun r1 MM1 => r = r1 ∧ Rel (k + 1) MX1 MM1)) := by
  have hR1 := hR.up
  obtain ⟨s, f, hX, hM, v, hR⟩ := hR.el
  have hs := v.1.2.2.1
  unfold w_X11_person w_X12_person
  refine sX_hasPerson hX.people (by omega) (fun h => pn_1 ?_) (fun h => pn_0 (sM_isPerson hM.people (by omega) (fun a => absurd a h) (fun a => pn_0 ⟨rfl, hR1⟩)))
  have h' := h
  obtain ⟨i, hi, rfl⟩ := h
  by_cases q : x2 < 0 ∨ 6 < x2
  · have n0 : ∀ c : Nat, c ≤ 6 → ¬ x2 = nI c := by
      intro c hc e
      subst e
      rcases q with q | q
      · exact absurd q (nI_pos (by omega))
      · exact absurd q (nI_nlt (a := 6) (b := c) hc (by decide))
    unfold w_X11_tellPerson
    refine pb_f (n0 0 (by decide)) (pb_f (n0 1 (by decide)) (pb_f (n0 2 (by decide)) (pb_f (n0 3 (by decide)) (pb_f (n0 4 (by decide)) (pb_f (n0 5 (by decide)) (pb_f (n0 6 (by decide)) ?_))))))
    refine sM_isPerson hM.people (by omega) (fun a => pn_1 (sM_within (fun z1 z2 => ?_) (fun _ => pb_0 ⟨rfl, hR1⟩))) (fun a => absurd h' a)
    rcases q with q | q
    · exact absurd q z1
    · exact absurd q z2
  · have q1 : ¬ x2 < 0 := fun z => q (Or.inl z)
    have q2 : x2 ≤ nI 6 := le_nlt.mpr (fun z => q (Or.inr z))
    obtain ⟨c, -, c6, rfl⟩ := inR (lo := 0) (hi := 6) (by decide) q1 q2 (by decide)
    obtain ⟨r, e1, e2⟩ := person_both hX hM v hi c c6
    refine e1 _ (sM_isPerson hM.people (by omega) (fun a => pn_1 (sM_within (fun _ _ => pb_1 (e2 _ ⟨rfl, hR1⟩)) (fun z => absurd z q))) (fun a => absurd h' a))
