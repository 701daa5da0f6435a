/-! ===== lies one can have told; what to ask ===== -/
theorem wI_back {M : Mm} {r i : Nat} {x : Int32} : wI (wI M r (upd (M.1 r) i x)) r (upd ((wI M r (upd (M.1 r) i x)).1 r) i (M.1 r i)) = M := by
  refine Prod.ext ?_ rfl
  funext n
  by_cases hn : n = r
  · subst hn
    rw [wI_same, wI_same]
    funext j
    by_cases hj : j = i
    · rw [hj, pk_us]
    · rw [pk_un hj, pk_un hj]
  · rw [wI_ne _ _ hn, wI_ne _ _ hn]
theorem stp_up {f : Nat → Nat → Nat} {i p w li : Nat} (hne : w ≠ i + 1) : stp (upf f 5 i li) i p w (upf f 5 i li 5 i) = stp f i p w li := by
  unfold stp
  by_cases z : w = 0
  · rw [if_pos z, if_pos z, upf_s, upf_n (by omega), upf_n (by omega), upf_n (by omega)]
  · have e5 : upf f 5 i li 5 (w - 1) = f 5 (w - 1) := upf_n (by omega)
    rw [if_neg z, if_neg z, upf_s, e5, upf_n (by omega), upf_n (by omega), upf_n (by omega), upf_n (by omega), upf_n (by omega)]
theorem Vt.lies {T : Nat} {s : Nat → Nat} {f : Nat → Nat → Nat} (v : Vt T s f) {i li : Nat} (hl : li ≤ 9) : Vt T s (upf f 5 i li) := by
  refine ⟨v.1, v.2.1, fun p hp => ?_, fun a ha => ?_, fun a ha => ?_⟩
  · rw [upf_n (by omega), upf_n (by omega), upf_n (by omega)]
    exact v.2.2.1 p hp
  · have va := v.2.2.2.1 a ha
    have e5 : upf f 5 i li 5 a ≤ 9 := by
      by_cases z : a = i
      · rw [z, upf_s]; exact hl
      · rw [upf_n (by omega)]; omega
    refine ⟨by rw [upf_n (by omega)]; omega, by rw [upf_n (by omega)]; omega, e5, by rw [upf_n (by omega)]; omega, by rw [upf_n (by omega)]; omega⟩
  · rw [upf_n (by omega), upf_n (by omega), upf_n (by omega), upf_n (by omega)]
    exact v.2.2.2.2 a ha
theorem sM_stepsWith {i p w li : Nat} {M : Mm} {s : Nat → Nat} {f : Nat → Nat → Nat} {post : Int32 → Mm → Prop} {T : Nat} (hM : HM M s f) (hV : Vt T s f) (hi : i < s 2) (hp : p < s 1) (hw : w ≤ s 2) (hne : w ≠ i + 1) (hl : li ≤ 9) (h : post (nI (stp f i p w li)) M) : w_X12_stepsWith (nI i) (nI li) (nI p) (nI w - 1) M post := by
  have hs := hV.1.2.2.1
  unfold w_X12_stepsWith
  refine ⟨vp_i (by omega) (by decide), fun M2 e2 => ?_⟩
  rw [cl_i (show i < 2 ^ 31 by omega)] at e2
  have h2 := hM.wr 5 i li e2
  refine sM_stepsOf h2 (hV.lies hl) hi hp hw (fun M7 e7 => ?_)
  rw [cl_i (show i < 2 ^ 31 by omega), e2, wI_back] at e7
  rw [e7, stp_up hne]
  exact h
theorem yd_mono (k len de : Nat) {a b : Nat} (h : a ≤ b) : yd k len de a ≤ yd k len de b := by
  unfold yd
  split
  · omega
  · split
    · omega
    · split
      · omega
      · split
        · omega
        · omega
theorem stp_mono (f : Nat → Nat → Nat) (i p w : Nat) {a b : Nat} (h : a ≤ b) : stp f i p w a ≤ stp f i p w b := by
  have y := yd_mono (f 3 i) (f 2 p) (f 4 i) h
  unfold stp
  split
  · exact y
  · omega
def okU (f : Nat → Nat → Nat) (i li : Nat) : Nat → Nat → Bool
  | 0, _ => true
  | m + 1, v => if f 8 v = i then (if f 11 v = stp f i (f 9 v) (f 10 v) li then okU f i li m (v + 1) else false) else okU f i li m (v + 1)
theorem sX_asSeen {i li : Nat} {M : Mm} {s : Nat → Nat} {f : Nat → Nat → Nat} {post : Int32 → Mm → Prop} {T : Nat} (hX : HX 3 M s f) (hV : Vt T s f) (hi : i < s 2) (hl : li ≤ 9) (h1 : okU f i li (s 4) 0 = true → post 1 M) (h0 : okU f i li (s 4) 0 = false → post 0 M) : w_X7_isAsSeen (nI i) (nI li) M post := by
  have hs := hV.1.2.2.1
  have hs4 := hV.1.2.2.2
  have key : ∀ m v, v + m = s 4 → (okU f i li m v = true → post 1 M) → (okU f i li m v = false → post 0 M) → w_X7_isAsSeen_2 post (m + 1) (nI i) (nI li) (nI v) M := by
    intro m
    induction m with
    | zero =>
      intro v hv g1 g0
      exact pk_le (s 4) v (fun _ => g1 rfl) (fun z => absurd z (by omega)) (H3_seen hX)
    | succ m ih =>
      intro v hv g1 g0
      have vs := hV.2.2.2.2 v (by omega)
      refine pk_le (s 4) v (fun z => absurd z (by omega)) (fun _ => pk_le 6 v (fun z => absurd z (by omega)) (fun _ => ⟨vp_i (by omega) (by decide), ?_⟩)) (H3_seen hX)
      rw [cl_i (by omega), H3_sper hX (by omega), H3_spas hX (by omega), H3_swith hX (by omega), H3_sstep hX (by omega), nI_1]
      unfold okU at g1 g0
      refine re_ (f 8 v) i (fun z => ?_) (fun z => ?_)
      · rw [if_neg z] at g1 g0
        exact ih (v + 1) (by omega) g1 g0
      · rw [if_pos z] at g1 g0
        refine sX_swl (by decide) hX hV hi vs.2.1 vs.2.2.1 hl ?_
        have st := stp_le hV hi vs.2.1 vs.2.2.1 hl
        refine pk_eq (f 11 v) (stp f i (f 9 v) (f 10 v) li) (fun y => ?_) (fun y => ?_)
        · rw [if_pos y] at g1 g0
          exact ih (v + 1) (by omega) g1 g0
        · rw [if_neg y] at g1 g0
          exact g0 rfl
  exact ⟨s 4 + 1, key (s 4) 0 (by omega) h1 h0⟩
def bi (ok : Nat → Bool) : Nat → Nat → Int32 → Int32
  | 0, _, acc => acc
  | m + 1, v, acc => bi ok m (v + 1) (if ok v = true then acc ||| ((1 : Int32) <<< (nI v &&& 31)) else acc)
def plB (s : Nat → Nat) (f : Nat → Nat → Nat) (i : Nat) : Int32 := bi (fun li => okU f i li (s 4) 0) 10 0 0
theorem sX_lies {i : Nat} {M : Mm} {s : Nat → Nat} {f : Nat → Nat → Nat} {post : Int32 → Mm → Prop} {T : Nat} (hX : HX 3 M s f) (hV : Vt T s f) (hi : i < s 2) (h : post (plB s f i) M) : w_X7_possibleLies (nI i) M post := by
  have key : ∀ m v acc, v + m = 10 → post (bi (fun li => okU f i li (s 4) 0) m v acc) M → w_X7_possibleLies_4 post (m + 1) (nI i) acc (nI v) M := by
    intro m
    induction m with
    | zero =>
      intro v acc hv g
      exact pk_lt 9 v (fun _ => g) (fun z => absurd z (by omega))
    | succ m ih =>
      intro v acc hv g
      refine pk_lt 9 v (fun z => absurd z (by omega)) (fun _ => sX_asSeen hX hV hi (by omega) (fun y => pb_1 ?_) (fun y => pb_0 ?_))
      · rw [nI_1]
        refine ih (v + 1) _ (by omega) ?_
        have g' : post (bi (fun li => okU f i li (s 4) 0) m (v + 1) (if okU f i v (s 4) 0 = true then acc ||| ((1 : Int32) <<< (nI v &&& 31)) else acc)) M := g
        rw [if_pos y] at g'
        exact g'
      · rw [nI_1]
        refine ih (v + 1) _ (by omega) ?_
        have g' : post (bi (fun li => okU f i li (s 4) 0) m (v + 1) (if okU f i v (s 4) 0 = true then acc ||| ((1 : Int32) <<< (nI v &&& 31)) else acc)) M := g
        rw [if_neg (by rw [y]; decide)] at g'
        exact g'
  exact ⟨11, key 10 0 0 rfl h⟩
theorem or_0 (x : Int32) : x ||| 0 = x := by
  apply Int32.toBitVec_inj.mp
  show x.toBitVec ||| (0 : Int32).toBitVec = x.toBitVec
  exact BitVec.or_zero
theorem sM_lies {i : Nat} {M : Mm} {s : Nat → Nat} {f : Nat → Nat → Nat} {post : Int32 → Mm → Prop} {T : Nat} (hM : HM M s f) (hV : Vt T s f) (hi : i < s 2) (h : post (plB s f i) M) : w_X12_liesBits (nI i) M post := by
  have hs := hV.1.2.2.1
  have hs4 := hV.1.2.2.2
  have zer : ∀ (k4 : Int32 → Int32 → Int32 → Mm → Prop) (li : Nat) (acc : Int32) (m v : Nat), v + m = s 4 → k4 (nI i) (acc ||| 0) (nI li + 1) M → w_X12_liesBits_16 post k4 (m + 1) (nI i) acc (nI li) 0 (nI v) M := by
    intro k4 li acc m
    induction m with
    | zero =>
      intro v hv g
      exact pk_le (s 4) v (fun _ => pb_0 g) (fun z => absurd z (by omega)) hM.seen
    | succ m ih =>
      intro v hv g
      refine pk_le (s 4) v (fun z => absurd z (by omega)) (fun _ => pb_0 ?_) hM.seen
      rw [nI_1]
      exact ih (v + 1) (by omega) g
  have one : ∀ (k4 : Int32 → Int32 → Int32 → Mm → Prop) (li : Nat) (hl : li ≤ 9) (acc : Int32) (m v : Nat), v + m = s 4 → (okU f i li m v = true → k4 (nI i) (acc ||| ((1 : Int32) <<< (nI li &&& 31))) (nI li + 1) M) → (okU f i li m v = false → k4 (nI i) (acc ||| 0) (nI li + 1) M) → w_X12_liesBits_16 post k4 (m + 1) (nI i) acc (nI li) 1 (nI v) M := by
    intro k4 li hl acc m
    induction m with
    | zero =>
      intro v hv g1 g0
      exact pk_le (s 4) v (fun _ => pb_1 (g1 rfl)) (fun z => absurd z (by omega)) hM.seen
    | succ m ih =>
      intro v hv g1 g0
      have vs := hV.2.2.2.2 v (by omega)
      refine pk_le (s 4) v (fun z => absurd z (by omega)) (fun _ => pb_1 ⟨vp_i (by omega) (by decide), ?_⟩) hM.seen
      rw [cl_i (by omega), hM.sper (by omega), hM.spas (by omega), hM.swith (by omega)]
      unfold okU at g1 g0
      unfold w_X12_liesBits_71
      rw [nI_1]
      refine re_ (f 8 v) i (fun z => ?_) (fun z => ?_)
      · rw [if_neg z] at g1 g0
        exact ih (v + 1) (by omega) g1 g0
      · rw [if_pos z] at g1 g0
        refine sM_stepsWith hM hV hi vs.2.1 vs.2.2.1 (by omega) hl ?_
        have st := stp_le hV hi vs.2.1 vs.2.2.1 hl
        rw [hM.sstep (by omega)]
        refine re_ (stp f i (f 9 v) (f 10 v) li) (f 11 v) (fun y => ?_) (fun y => ?_)
        · rw [if_neg (fun q => y q.symm)] at g1 g0
          exact zer k4 li acc m (v + 1) (by omega) (g0 rfl)
        · rw [if_pos y.symm] at g1 g0
          exact ih (v + 1) (by omega) g1 g0
  have key : ∀ m v acc, v + m = 10 → post (bi (fun li => okU f i li (s 4) 0) m v acc) M → w_X12_liesBits_4 post (m + 1) (nI i) acc (nI v) M := by
    intro m
    induction m with
    | zero =>
      intro v acc hv g
      exact pk_lt 9 v (fun _ => g) (fun z => absurd z (by omega))
    | succ m ih =>
      intro v acc hv g
      refine pk_lt 9 v (fun z => absurd z (by omega)) (fun _ => ⟨s 4 + 1, one _ v (by omega) acc (s 4) 0 (by omega) (fun y => ?_) (fun y => ?_)⟩)
      · rw [nI_1]
        refine ih (v + 1) _ (by omega) ?_
        have g' : post (bi (fun li => okU f i li (s 4) 0) m (v + 1) (if okU f i v (s 4) 0 = true then acc ||| ((1 : Int32) <<< (nI v &&& 31)) else acc)) M := g
        rw [if_pos y] at g'
        exact g'
      · rw [nI_1, or_0]
        refine ih (v + 1) _ (by omega) ?_
        have g' : post (bi (fun li => okU f i li (s 4) 0) m (v + 1) (if okU f i v (s 4) 0 = true then acc ||| ((1 : Int32) <<< (nI v &&& 31)) else acc)) M := g
        rw [if_neg (by rw [y]; decide)] at g'
        exact g'
  exact ⟨11, key 10 0 0 rfl h⟩
/-! like steps: runs against pairs -/
def cn (S : Nat → Bool) (st : Nat → Nat) (v : Nat) : Nat → Nat
  | 0 => 0
  | n + 1 => cn S st v n + (if S n = true ∧ st n = st v then 1 else 0)
def wm (S : Nat → Bool) (st : Nat → Nat) (N : Nat) : Nat → Nat
  | 0 => 0
  | k + 1 => max (wm S st N k) (if S k = true then cn S st k N else 0)
theorem cn_eq {S : Nat → Bool} {st : Nat → Nat} {u v : Nat} (h : st u = st v) (n : Nat) : cn S st u n = cn S st v n := by
  induction n with
  | zero => rfl
  | succ n ih =>
    show cn S st u n + _ = cn S st v n + _
    rw [ih, h]
theorem cn_le (S : Nat → Bool) (st : Nat → Nat) (v n : Nat) : cn S st v n ≤ n := by
  induction n with
  | zero => exact Nat.le_refl _
  | succ n ih =>
    show cn S st v n + _ ≤ _
    split <;> omega
theorem wm_le (S : Nat → Bool) (st : Nat → Nat) (N k : Nat) : wm S st N k ≤ N := by
  induction k with
  | zero => exact Nat.zero_le _
  | succ k ih =>
    show max (wm S st N k) _ ≤ N
    have := cn_le S st k N
    split <;> omega
theorem wm_step (S : Nat → Bool) (st : Nat → Nat) (n k : Nat) : wm S st n k ≤ wm S st (n + 1) k ∧ wm S st (n + 1) k ≤ max (wm S st n k) (if S n = true then cn S st n (n + 1) else 0) := by
  induction k with
  | zero => exact ⟨Nat.le_refl _, Nat.zero_le _⟩
  | succ k ih =>
    obtain ⟨i1, i2⟩ := ih
    show max (wm S st n k) (if S k = true then cn S st k n else 0) ≤ max (wm S st (n + 1) k) (if S k = true then cn S st k (n + 1) else 0) ∧ max (wm S st (n + 1) k) (if S k = true then cn S st k (n + 1) else 0) ≤ max (max (wm S st n k) (if S k = true then cn S st k n else 0)) (if S n = true then cn S st n (n + 1) else 0)
    have e : cn S st k (n + 1) = cn S st k n + (if S n = true ∧ st n = st k then 1 else 0) := rfl
    by_cases sk : S k = true
    · rw [if_pos sk, if_pos sk]
      by_cases c : S n = true ∧ st n = st k
      · have e2 : cn S st n (n + 1) = cn S st k (n + 1) := cn_eq c.2 _
        rw [if_pos c] at e
        rw [if_pos c.1] at i2 ⊢
        omega
      · rw [if_neg c] at e
        omega
    · rw [if_neg sk, if_neg sk]
      omega
theorem wm_diag (S : Nat → Bool) (st : Nat → Nat) (n : Nat) : wm S st (n + 1) (n + 1) = max (wm S st n n) (if S n = true then cn S st n (n + 1) else 0) := by
  have h := wm_step S st n n
  show max (wm S st (n + 1) n) (if S n = true then cn S st n (n + 1) else 0) = _
  omega
def tS (x : Int32) (v : Nat) : Bool := decide (¬ ((x >>> (nI v &&& 31)) &&& (1 : Int32)) = 0)
theorem and1 (x : Int32) : x &&& (1 : Int32) = 0 ∨ x &&& (1 : Int32) = 1 := by
  obtain ⟨j, hj, e⟩ := pk_andE x (m := 1) 1 (by decide)
  rcases (show j = 0 ∨ j = 1 by omega) with rfl | rfl
  · exact Or.inl e
  · exact Or.inr e
theorem sM_isIn {x : Int32} {v : Nat} {M : Mm} {post : Int32 → Mm → Prop} (h1 : tS x v = true → post 1 M) (h0 : tS x v = false → post 0 M) : w_X12_isIn x (nI v) M post := by
  unfold w_X12_isIn
  have d : tS x v = decide (¬ ((x >>> (nI v &&& 31)) &&& (1 : Int32)) = 0) := rfl
  rcases and1 (x >>> (nI v &&& 31)) with e | e
  · rw [e] at d ⊢
    exact pn_f (by decide) (h0 (by rw [d]; decide))
  · rw [e] at d ⊢
    exact pn_t rfl (h1 (by rw [d]; decide))
def lw (f : Nat → Nat → Nat) (x : Int32) (i p w : Nat) : Nat := wm (tS x) (fun li => stp f i p w li) 10 10
theorem max_i {a b : Nat} (ha : a < 2 ^ 31) (hb : b < 2 ^ 31) : (if nI a < nI b then nI b else nI a) = nI (max a b) := by
  by_cases z : a < b
  · rw [if_pos (nI_lt z hb)]
    exact congrArg nI (by omega)
  · rw [if_neg (nI_nlt (by omega) ha)]
    exact congrArg nI (by omega)
theorem sX_worst {i p w : Nat} {x : Int32} {M : Mm} {s : Nat → Nat} {f : Nat → Nat → Nat} {post : Int32 → Mm → Prop} {T : Nat} (hX : HX 3 M s f) (hV : Vt T s f) (hi : i < s 2) (hp : p < s 1) (hw : w ≤ s 2) (h : post (nI (lw f x i p w)) M) : w_X7_leftAtWorst (nI i) (nI p) (nI w - 1) x M post := by
  have key : ∀ m n, n + m = 10 → ∀ (al : Nat) (be : Int32), (((∀ u, u < n → tS x u = false) ∧ al = 0 ∧ be = -1) ∨ (∃ l, l < n ∧ tS x l = true ∧ (∀ u, l < u → u < n → tS x u = false) ∧ be = nI (stp f i p w l) ∧ al = cn (tS x) (fun li => stp f i p w li) l n)) → w_X7_leftAtWorst_12 post (m + 1) (nI i) (nI p) (nI w - 1) x (nI (wm (tS x) (fun li => stp f i p w li) n n)) (nI al) be (nI n) M := by
    intro m
    induction m with
    | zero =>
      intro n hn al be _
      obtain rfl : n = 10 := by omega
      exact pb_t (by decide) h
    | succ m ih =>
      intro n hn al be hI
      refine pk_lt 9 n (fun z => absurd z (by omega)) (fun _ => ?_)
      have d : tS x n = decide (¬ ((x >>> (nI n &&& 31)) &&& (1 : Int32)) = 0) := rfl
      have dg := wm_diag (tS x) (fun li => stp f i p w li) n
      refine ⟨fun z => ?_, fun z => ?_⟩
      · have d0 : tS x n = false := by rw [d]; simp [z]
        rw [if_neg (by rw [d0]; decide)] at dg
        rw [nI_1, show wm (tS x) (fun li => stp f i p w li) n n = wm (tS x) (fun li => stp f i p w li) (n + 1) (n + 1) by omega]
        refine ih (n + 1) (by omega) al be ?_
        rcases hI with ⟨a, b, c⟩ | ⟨l, a, b, c, e, g⟩
        · refine Or.inl ⟨fun u hu => ?_, b, c⟩
          by_cases y : u = n
          · rw [y]; exact d0
          · exact a u (by omega)
        · refine Or.inr ⟨l, by omega, b, fun u h1 h2 => ?_, e, ?_⟩
          · by_cases y : u = n
            · rw [y]; exact d0
            · exact c u h1 (by omega)
          · show al = cn (tS x) (fun li => stp f i p w li) l n + (if tS x n = true ∧ stp f i p w n = stp f i p w l then 1 else 0)
            rw [if_neg (by rw [d0]; simp)]
            exact g
      · have d1 : tS x n = true := by rw [d]; simp [z]
        rw [if_pos d1] at dg
        have cnn : cn (tS x) (fun li => stp f i p w li) n (n + 1) = cn (tS x) (fun li => stp f i p w li) n n + 1 := by
          show cn (tS x) (fun li => stp f i p w li) n n + (if tS x n = true ∧ stp f i p w n = stp f i p w n then 1 else 0) = _
          rw [if_pos ⟨d1, rfl⟩]
        have st := stp_le hV hi hp hw (li := n) (by omega)
        have wl := wm_le (tS x) (fun li => stp f i p w li) n n
        have cl := cn_le (tS x) (fun li => stp f i p w li) n (n + 1)
        refine sX_swl (by decide) hX hV hi hp hw (by omega) ?_
        have fin : ∀ a : Nat, a = cn (tS x) (fun li => stp f i p w li) n (n + 1) → w_X7_leftAtWorst_55 post (w_X7_leftAtWorst_12 post (m + 1)) (nI i) (nI p) (nI w - 1) x (nI (wm (tS x) (fun li => stp f i p w li) n n)) (nI n) (nI (stp f i p w n)) (nI a) M := by
          intro a ha
          unfold w_X7_leftAtWorst_55
          rw [max_i (by omega) (by omega), nI_1, ha, ← dg]
          refine ih (n + 1) (by omega) _ _ (Or.inr ⟨n, by omega, d1, fun u h1 h2 => absurd h1 (by omega), rfl, rfl⟩)
        rcases hI with ⟨a, b, c⟩ | ⟨l, a, b, c, e, g⟩
        · rw [c]
          refine pn_f (ne_m1 (by omega)) (fin 1 ?_)
          have z0 : ∀ k, k ≤ n → cn (tS x) (fun li => stp f i p w li) n k = 0 := by
            intro k
            induction k with
            | zero => intro _; rfl
            | succ k ih2 =>
              intro hk
              show cn (tS x) (fun li => stp f i p w li) n k + (if tS x k = true ∧ stp f i p w k = stp f i p w n then 1 else 0) = 0
              rw [ih2 (by omega), if_neg (by rw [a k (by omega)]; simp)]
          rw [cnn, z0 n (Nat.le_refl _)]
        · have sl := stp_le hV hi hp hw (li := l) (by omega)
          rw [e]
          refine re_ (stp f i p w n) (stp f i p w l) (fun y => fin 1 ?_) (fun y => ?_)
          · have z0 : ∀ k, k ≤ n → cn (tS x) (fun li => stp f i p w li) n k = 0 := by
              intro k
              induction k with
              | zero => intro _; rfl
              | succ k ih2 =>
                intro hk
                show cn (tS x) (fun li => stp f i p w li) n k + (if tS x k = true ∧ stp f i p w k = stp f i p w n then 1 else 0) = 0
                rw [ih2 (by omega), if_neg]
                intro q
                by_cases y1 : k ≤ l
                · have m1 := stp_mono f i p w y1
                  have m2 := stp_mono f i p w (show l ≤ n by omega)
                  omega
                · have := c k (by omega) (by omega)
                  rw [this] at q
                  exact absurd q.1 (by decide)
            rw [cnn, z0 n (Nat.le_refl _)]
          · rw [nI_1]
            refine fin (al + 1) ?_
            rw [cnn, g, cn_eq (S := tS x) (st := fun li => stp f i p w li) (u := n) (v := l) y n]
  exact ⟨11, key 10 0 rfl 0 (-1) (Or.inl ⟨fun u hu => absurd hu (by omega), rfl, rfl⟩)⟩
theorem sM_worst {i p w : Nat} {x : Int32} {M : Mm} {s : Nat → Nat} {f : Nat → Nat → Nat} {post : Int32 → Mm → Prop} {T : Nat} (hM : HM M s f) (hV : Vt T s f) (hi : i < s 2) (hp : p < s 1) (hw : w ≤ s 2) (hne : w ≠ i + 1) (h : post (nI (lw f x i p w)) M) : w_X12_worstBy (nI i) x (nI p) (nI w - 1) M post := by
  have inn : ∀ (k6 : Int32 → Int32 → Int32 → Int32 → Int32 → Int32 → Mm → Prop) (a v : Nat) (hv : v ≤ 9) (ha : a ≤ 10), (k6 (nI i) x (nI p) (nI w - 1) (nI (max a (if tS x v = true then cn (tS x) (fun li => stp f i p w li) v 10 else 0))) (nI v + 1) M) → ∀ m n, n + m = 10 → w_X12_worstBy_19 post k6 (m + 1) (nI i) x (nI p) (nI w - 1) (nI a) (nI v) (nI (if tS x v = true then cn (tS x) (fun li => stp f i p w li) v n else 0)) (nI n) M := by
    intro k6 a v hv ha g m
    induction m with
    | zero =>
      intro n hn
      obtain rfl : n = 10 := by omega
      have cl := cn_le (tS x) (fun li => stp f i p w li) v 10
      refine pb_t (by decide) ?_
      have cl2 : (if tS x v = true then cn (tS x) (fun li => stp f i p w li) v 10 else 0) ≤ 10 := by split <;> omega
      refine pk_le _ a (fun z => ?_) (fun z => ?_) rfl rfl (by omega) (by omega)
      · rw [show max a (if tS x v = true then cn (tS x) (fun li => stp f i p w li) v 10 else 0) = a by omega] at g
        exact g
      · rw [show max a (if tS x v = true then cn (tS x) (fun li => stp f i p w li) v 10 else 0) = (if tS x v = true then cn (tS x) (fun li => stp f i p w li) v 10 else 0) by omega] at g
        exact g
    | succ m ih =>
      intro n hn
      have ihn := ih (n + 1) (by omega)
      refine pk_lt 9 n (fun z => absurd z (by omega)) (fun _ => sM_isIn (fun y1 => pb_1 ?_) (fun y1 => pb_0 ?_))
      · rw [if_pos y1] at ihn ⊢
        have e : cn (tS x) (fun li => stp f i p w li) v (n + 1) = cn (tS x) (fun li => stp f i p w li) v n + (if tS x n = true ∧ stp f i p w n = stp f i p w v then 1 else 0) := rfl
        refine sM_isIn (fun y2 => pb_1 ?_) (fun y2 => pb_0 ?_)
        · refine sM_stepsWith hM hV hi hp hw hne hv (sM_stepsWith hM hV hi hp hw hne (by omega) ?_)
          have s1 := stp_le hV hi hp hw (li := v) hv
          have s2 := stp_le hV hi hp hw (li := n) (by omega)
          refine re_ (stp f i p w v) (stp f i p w n) (fun y3 => ?_) (fun y3 => ?_)
          · unfold w_X12_worstBy_73
            rw [if_neg (fun q => y3 q.2.symm)] at e
            rw [e] at ihn
            rw [← nI_0, nI_add, nI_1]
            exact ihn
          · rw [if_pos ⟨y2, y3.symm⟩] at e
            rw [e] at ihn
            rw [nI_1, nI_1]
            exact ihn
        · unfold w_X12_worstBy_73
          rw [if_neg (by rw [y2]; simp)] at e
          rw [e] at ihn
          rw [← nI_0, nI_add, nI_1]
          exact ihn
      · rw [if_neg (by rw [y1]; decide)] at ihn ⊢
        unfold w_X12_worstBy_73
        rw [nI_1]
        exact ihn
  have key : ∀ m v, v + m = 10 → w_X12_worstBy_6 post (m + 1) (nI i) x (nI p) (nI w - 1) (nI (wm (tS x) (fun li => stp f i p w li) 10 v)) (nI v) M := by
    intro m
    induction m with
    | zero =>
      intro v hv
      obtain rfl : v = 10 := by omega
      exact pb_t (by decide) h
    | succ m ih =>
      intro v hv
      have wl := wm_le (tS x) (fun li => stp f i p w li) 10 v
      refine pk_lt 9 v (fun z => absurd z (by omega)) (fun _ => ⟨11, ?_⟩)
      have g := inn (w_X12_worstBy_6 post (m + 1)) (wm (tS x) (fun li => stp f i p w li) 10 v) v (by omega) wl (by rw [nI_1]; exact ih (v + 1) (by omega)) 10 0 rfl
      have e0 : (if tS x v = true then cn (tS x) (fun li => stp f i p w li) v 0 else 0) = 0 := by split <;> rfl
      rw [e0] at g
      exact g
  exact ⟨11, key 10 0 rfl⟩
def bqW (f : Nat → Nat → Nat) (x : Int32) (i p : Nat) : Nat → Nat → Int32 × Nat → Int32 × Nat
  | 0, _, c => c
  | m + 1, w, c => bqW f x i p m (w + 1) (if w = i + 1 then c else if lw f x i p w < c.2 then (((10 : Int32) * nI p + (nI w - 1)) + 1, lw f x i p w) else c)
def bqP (s : Nat → Nat) (f : Nat → Nat → Nat) (x : Int32) (i : Nat) : Nat → Nat → Int32 × Nat → Int32 × Nat
  | 0, _, c => c
  | m + 1, p, c => bqP s f x i m (p + 1) (bqW f x i p (s 2 + 1) 0 c)
theorem lw_le (f : Nat → Nat → Nat) (x : Int32) (i p w : Nat) : lw f x i p w ≤ 10 := wm_le _ _ _ _
theorem nI_w1 (w : Nat) : (nI w - 1 : Int32) + 1 = nI (w + 1) - 1 := by
  rw [nI_pred, Int32.sub_add_cancel]
theorem w_le {N w : Nat} (hN : N < 100) (hw : w < 100) : nI N ≤ nI w - 1 ↔ N + 1 ≤ w := by
  rw [Int32.le_iff_toInt_le, nI_toInt (by omega), pm_sub (by omega)]
  omega
theorem w_eq {i w : Nat} (hi : i < 100) (hw : w < 100) : (nI w - 1 : Int32) = nI i ↔ w = i + 1 := by
  constructor
  · intro e
    have h := congrArg Int32.toInt e
    rw [nI_toInt (by omega), pm_sub (by omega)] at h
    omega
  · intro e
    rw [e, nI_pred]
theorem sX_bq {i : Nat} {M : Mm} {s : Nat → Nat} {f : Nat → Nat → Nat} {post : Int32 → Mm → Prop} {T : Nat} (hX : HX 3 M s f) (hV : Vt T s f) (hi : i < s 2) (h : post (if plB s f i = 0 then -1 else (bqP s f (plB s f i) i (s 1) 0 (-1, 11)).1) M) : w_X7_bestQuestion (nI i) (plB s f i) M post := by
  have hs := hV.1.2.2.1
  have hs1 := hV.1.2.1
  unfold w_X7_bestQuestion
  refine ⟨fun z => ?_, fun z => ?_⟩
  · rw [if_neg z] at h
    generalize plB s f i = x at z h ⊢
    have inn : ∀ (k21 : Int32 → Int32 → Int32 → Int32 → Int32 → Mm → Prop) (p : Nat) (hp : p < s 1), ∀ m w (c : Int32 × Nat), w + m = s 2 + 1 → c.2 ≤ 11 → (∀ c1 : Int32 × Nat, c1 = bqW f x i p m w c → c1.2 ≤ 11 → k21 (nI i) x c1.1 (nI c1.2) (nI p + 1) M) → w_X7_bestQuestion_27 post k21 (m + 1) (nI i) x c.1 (nI c.2) (nI p) (nI w - 1) M := by
      intro k21 p hp m
      induction m with
      | zero =>
        intro w c hw hc g
        refine ⟨fun _ => g c rfl hc, fun y => absurd ?_ y⟩
        rw [H3_people hX]
        exact (w_le (by omega) (by omega)).mpr (by omega)
      | succ m ih =>
        intro w c hw hc g
        refine ⟨fun y => ?_, fun _ => ⟨fun y => ?_, fun y => ?_⟩⟩
        · rw [H3_people hX] at y
          have := (w_le (by omega) (by omega)).mp y
          omega
        · have y' : w ≠ i + 1 := fun q => y ((w_eq (by omega) (by omega)).mpr q)
          refine sX_worst hX hV hi hp (by omega) ?_
          have ll := lw_le f x i p w
          refine pk_le c.2 (lw f x i p w) (fun q => ?_) (fun q => ?_)
          · rw [nI_w1]
            refine ih (w + 1) c (by omega) hc (fun c1 e1 e2 => g c1 ?_ e2)
            rw [e1]
            show _ = bqW f x i p m (w + 1) _
            rw [if_neg y', if_neg (by omega)]
          · rw [nI_w1]
            refine ih (w + 1) (((10 : Int32) * nI p + (nI w - 1)) + 1, lw f x i p w) (by omega) (by show lw f x i p w ≤ 11; omega) (fun c1 e1 e2 => g c1 ?_ e2)
            rw [e1]
            show _ = bqW f x i p m (w + 1) _
            rw [if_neg y', if_pos (by omega)]
        · have y' : w = i + 1 := (w_eq (by omega) (by omega)).mp y
          rw [nI_w1]
          refine ih (w + 1) c (by omega) hc (fun c1 e1 e2 => g c1 ?_ e2)
          rw [e1]
          show _ = bqW f x i p m (w + 1) _
          rw [if_pos y']
    have key : ∀ m p (c : Int32 × Nat), p + m = s 1 → c.2 ≤ 11 → post (bqP s f x i m p c).1 M → w_X7_bestQuestion_15 post (m + 1) (nI i) x c.1 (nI c.2) (nI p) M := by
      intro m
      induction m with
      | zero =>
        intro p c hp hc g
        exact pk_le (s 1) p (fun _ => g) (fun y => absurd y (by omega)) (H3_passages hX)
      | succ m ih =>
        intro p c hp hc g
        refine pk_le (s 1) p (fun y => absurd y (by omega)) (fun _ => ⟨s 2 + 2, ?_⟩) (H3_passages hX)
        rw [← nI_m1]
        refine inn _ p (by omega) (s 2 + 1) 0 c (by omega) hc (fun c1 e1 e2 => ?_)
        rw [nI_1]
        refine ih (p + 1) c1 (by omega) e2 ?_
        rw [e1]
        exact g
    exact ⟨s 1 + 1, key (s 1) 0 (-1, 11) (by omega) (by decide) h⟩
  · rw [if_pos z] at h
    exact h
def fw (n : Nat) : Nat := if n = 11 then 268435456 else n
theorem sM_bq {i : Nat} {M : Mm} {s : Nat → Nat} {f : Nat → Nat → Nat} {post : Int32 → Mm → Prop} {T : Nat} (hM : HM M s f) (hV : Vt T s f) (hi : i < s 2) (h : post (if plB s f i = 0 then -1 else (bqP s f (plB s f i) i (s 1) 0 (-1, 11)).1) M) : w_X12_askOf (nI i) M post := by
  have hs := hV.1.2.2.1
  have hs1 := hV.1.2.1
  unfold w_X12_askOf
  refine sM_lies hM hV hi ?_
  have fwl : ∀ n, n ≤ 11 → fw n ≤ 268435456 := fun n hn => by unfold fw; split <;> omega
  have fwi : ∀ n l, n ≤ 11 → l ≤ 10 → (fw n ≤ l ↔ n ≤ l) := fun n l hn hl => by unfold fw; split <;> omega
  have fws : ∀ n, n ≤ 10 → fw n = n := fun n hn => by unfold fw; rw [if_neg (by omega)]
  by_cases z : plB s f i = 0
  · rw [if_pos z] at h
    rw [z]
    refine ⟨1, ⟨fun _ => h, fun _ => pb_0 h⟩⟩
  · rw [if_neg z] at h
    generalize plB s f i = x at z h ⊢
    have inn : ∀ (k15 : Int32 → Int32 → Int32 → Int32 → Int32 → Mm → Prop) (p : Nat) (hp : p < s 1), ∀ m w (c : Int32 × Nat), w + m = s 2 + 1 → c.2 ≤ 11 → (∀ c1 : Int32 × Nat, c1 = bqW f x i p m w c → c1.2 ≤ 11 → k15 (nI i) x c1.1 (nI (fw c1.2)) (nI p + 1) M) → w_X12_askOf_31 post k15 (m + 1) (nI i) x c.1 (nI (fw c.2)) (nI p) (nI w - 1) M := by
      intro k15 p hp m
      induction m with
      | zero =>
        intro w c hw hc g
        refine ⟨fun _ => g c rfl hc, fun y => absurd ?_ y⟩
        rw [hM.people]
        exact (w_le (by omega) (by omega)).mpr (by omega)
      | succ m ih =>
        intro w c hw hc g
        have f1 := fwl c.2 hc
        refine ⟨fun y => ?_, fun _ => ⟨fun y => ?_, fun y => ?_⟩⟩
        · rw [hM.people] at y
          have := (w_le (by omega) (by omega)).mp y
          omega
        · have y' : w ≠ i + 1 := fun q => y ((w_eq (by omega) (by omega)).mpr q)
          refine sM_worst hM hV hi hp (by omega) y' ?_
          have ll := lw_le f x i p w
          have f2 := fwi c.2 (lw f x i p w) hc ll
          unfold w_X12_askOf_61 w_X12_askOf_84
          refine pk_le (fw c.2) (lw f x i p w) (fun q => pk_le (fw c.2) (lw f x i p w) (fun _ => ?_) (fun q2 => absurd q (by omega))) (fun q => pk_le (fw c.2) (lw f x i p w) (fun q2 => absurd q (by omega)) (fun _ => ?_))
          · rw [nI_w1]
            refine ih (w + 1) c (by omega) hc (fun c1 e1 e2 => g c1 ?_ e2)
            rw [e1]
            show _ = bqW f x i p m (w + 1) _
            rw [if_neg y', if_neg (by omega)]
          · rw [nI_w1]
            have g3 := ih (w + 1) (((10 : Int32) * nI p + (nI w - 1)) + 1, lw f x i p w) (by omega) (by show lw f x i p w ≤ 11; omega) (fun c1 e1 e2 => g c1 (by
              rw [e1]
              show _ = bqW f x i p m (w + 1) _
              rw [if_neg y', if_pos (by omega)]) e2)
            rw [fws (lw f x i p w) ll] at g3
            exact g3
        · have y' : w = i + 1 := (w_eq (by omega) (by omega)).mp y
          unfold w_X12_askOf_61 w_X12_askOf_84
          refine pk_le (fw c.2) 268435456 (fun q => pk_le (fw c.2) 268435456 (fun _ => ?_) (fun q2 => absurd q (by omega))) (fun q => absurd q (by omega))
          rw [nI_w1]
          refine ih (w + 1) c (by omega) hc (fun c1 e1 e2 => g c1 ?_ e2)
          rw [e1]
          show _ = bqW f x i p m (w + 1) _
          rw [if_pos y']
    have key : ∀ m p (c : Int32 × Nat), p + m = s 1 → c.2 ≤ 11 → post (bqP s f x i m p c).1 M → w_X12_askOf_15 post (m + 1) (nI i) x c.1 (nI (fw c.2)) (nI p) M := by
      intro m
      induction m with
      | zero =>
        intro p c hp hc g
        exact pk_le (s 1) p (fun _ => g) (fun y => absurd y (by omega)) hM.passages
      | succ m ih =>
        intro p c hp hc g
        refine pk_le (s 1) p (fun y => absurd y (by omega)) (fun _ => pb_f z ⟨s 2 + 2, ?_⟩) hM.passages
        rw [← nI_m1]
        refine inn _ p (by omega) (s 2 + 1) 0 c (by omega) hc (fun c1 e1 e2 => ?_)
        rw [nI_1]
        refine ih (p + 1) c1 (by omega) e2 ?_
        rw [e1]
        exact g
    exact ⟨s 1 + 1, key (s 1) 0 (-1, 11) (by omega) (by decide) h⟩
/-- what person tells, on both sides -/
theorem person_both {T : Nat} {MX MM : Mm} {s : Nat → Nat} {f : Nat → Nat → Nat} (hX : HX 3 MX s f) (hM : HM MM s f) (hV : Vt T s f) {i : Nat} (hi : i < s 2) (c : Nat) (hc : c ≤ 6) : ∃ v, Ev (w_X11_tellPerson (nI i) (nI c) MX) v MX ∧ Ev (w_X12_personNow (nI i) (nI c) MM) v MM := by
  have hs := hV.1.2.2.1
  have ci : (nI i).toNatClampNeg = i := cl_i (by omega)
  unfold Ev w_X11_tellPerson w_X12_personNow
  rw [ci]
  rcases (show c = 0 ∨ c = 1 ∨ c = 2 ∨ c = 3 ∨ c = 4 ∨ c = 5 ∨ c = 6 by omega) with rfl | rfl | rfl | rfl | rfl | rfl | rfl
  · exact ⟨nI (f 3 i), fun post h => pb_t (by decide) ⟨vp_i (by omega) (by decide), (H3_kind hX (show i < 5 by omega)).symm ▸ h⟩, fun post h => pb_t (by decide) ⟨vp_i (by omega) (by decide), (hM.kind (show i < 5 by omega)).symm ▸ h⟩⟩
  · exact ⟨nI (f 4 i), fun post h => pb_f (by decide) (pb_t (by decide) ⟨vp_i (by omega) (by decide), (H3_deed hX (show i < 5 by omega)).symm ▸ h⟩), fun post h => pb_f (by decide) (pb_t (by decide) ⟨vp_i (by omega) (by decide), (hM.deed (show i < 5 by omega)).symm ▸ h⟩)⟩
  · exact ⟨nI (f 5 i), fun post h => pb_f (by decide) (pb_f (by decide) (pb_t (by decide) ⟨vp_i (by omega) (by decide), (H3_lie hX (show i < 5 by omega)).symm ▸ h⟩)), fun post h => pb_f (by decide) (pb_f (by decide) (pb_t (by decide) ⟨vp_i (by omega) (by decide), (hM.lie (show i < 5 by omega)).symm ▸ h⟩))⟩
  · exact ⟨nI (f 6 i), fun post h => pb_f (by decide) (pb_f (by decide) (pb_f (by decide) (pb_t (by decide) ⟨vp_i (by omega) (by decide), (H3_place hX (show i < 5 by omega)).symm ▸ h⟩))), fun post h => pb_f (by decide) (pb_f (by decide) (pb_f (by decide) (pb_t (by decide) ⟨vp_i (by omega) (by decide), (hM.place (show i < 5 by omega)).symm ▸ h⟩)))⟩
  · exact ⟨nI (f 7 i), fun post h => pb_f (by decide) (pb_f (by decide) (pb_f (by decide) (pb_f (by decide) (pb_t (by decide) ⟨vp_i (by omega) (by decide), (H3_took hX (show i < 5 by omega)).symm ▸ h⟩)))), fun post h => pb_f (by decide) (pb_f (by decide) (pb_f (by decide) (pb_f (by decide) (pb_t (by decide) ⟨vp_i (by omega) (by decide), (hM.took (show i < 5 by omega)).symm ▸ h⟩))))⟩
  · exact ⟨plB s f i, fun post h => pb_f (by decide) (pb_f (by decide) (pb_f (by decide) (pb_f (by decide) (pb_f (by decide) (pb_t (by decide) (sX_lies hX hV hi h)))))), fun post h => pb_f (by decide) (pb_f (by decide) (pb_f (by decide) (pb_f (by decide) (pb_f (by decide) (pb_t (by decide) (sM_lies hM hV hi h))))))⟩
  · exact ⟨if plB s f i = 0 then -1 else (bqP s f (plB s f i) i (s 1) 0 (-1, 11)).1, fun post h => pb_f (by decide) (pb_f (by decide) (pb_f (by decide) (pb_f (by decide) (pb_f (by decide) (pb_f (by decide) (pb_t (by decide) (sX_lies hX hV hi (sX_bq hX hV hi h)))))))), fun post h => pb_f (by decide) (pb_f (by decide) (pb_f (by decide) (pb_f (by decide) (pb_f (by decide) (pb_f (by decide) (sM_bq hM hV hi h))))))⟩
theorem sim_person (k : Nat) (MX MM : Mm) (x1 x2 : Int32) (hk : k < 512) (hR : Rel k MX MM) : w_X11_person x1 x2 MX (fun r MX1 => w_X12_person x1 x2 MM (fun r1 MM1 => r = r1 ∧ Rel (k + 1) MX1 MM1)) := by
  have hR1 := hR.up
  obtain ⟨s, f, hX, hM, v, hR⟩ := hR.el
  have hs := v.1.2.2.1
  unfold w_X11_person w_X12_person
  refine sX_hasPerson hX.people (by omega) (fun h => pn_1 ?_) (fun h => pn_0 (sM_isPerson hM.people (by omega) (fun a => absurd a h) (fun a => pn_0 ⟨rfl, hR1⟩)))
  have h' := h
  obtain ⟨i, hi, rfl⟩ := h
  by_cases q : x2 < 0 ∨ 6 < x2
  · have n0 : ∀ c : Nat, c ≤ 6 → ¬ x2 = nI c := by
      intro c hc e
      subst e
      rcases q with q | q
      · exact absurd q (nI_pos (by omega))
      · exact absurd q (nI_nlt (a := 6) (b := c) hc (by decide))
    unfold w_X11_tellPerson
    refine pb_f (n0 0 (by decide)) (pb_f (n0 1 (by decide)) (pb_f (n0 2 (by decide)) (pb_f (n0 3 (by decide)) (pb_f (n0 4 (by decide)) (pb_f (n0 5 (by decide)) (pb_f (n0 6 (by decide)) ?_))))))
    refine sM_isPerson hM.people (by omega) (fun a => pn_1 (sM_within (fun z1 z2 => ?_) (fun _ => pb_0 ⟨rfl, hR1⟩))) (fun a => absurd h' a)
    rcases q with q | q
    · exact absurd q z1
    · exact absurd q z2
  · have q1 : ¬ x2 < 0 := fun z => q (Or.inl z)
    have q2 : x2 ≤ nI 6 := le_nlt.mpr (fun z => q (Or.inr z))
    obtain ⟨c, -, c6, rfl⟩ := inR (lo := 0) (hi := 6) (by decide) q1 q2 (by decide)
    obtain ⟨r, e1, e2⟩ := person_both hX hM v hi c c6
    refine e1 _ (sM_isPerson hM.people (by omega) (fun a => pn_1 (sM_within (fun _ _ => pb_1 (e2 _ ⟨rfl, hR1⟩)) (fun z => absurd z q))) (fun a => absurd h' a))
