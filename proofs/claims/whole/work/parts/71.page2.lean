/-! ===== the page: letters, and where the first wrong one is ===== -/
def cd (pn : Nat) (pg : Nat → Nat) (k : Nat) : Nat := if k < pn then pg k else 0
theorem sX_code {pn k : Nat} {pg : Nat → Nat} {M : Mm} {post : Int32 → Mm → Prop} (e1 : M.1 1 1 = nI pn) (h52 : pn ≤ 52) (e2 : ∀ i, i < pn → M.1 2 i = nI (pg i)) (hk : k < 2 ^ 31) (h : post (nI (cd pn pg k)) M) : w_X5_codeAt (nI k) M post := by
  unfold w_X5_codeAt
  unfold cd at h
  refine pb_f (nI_pos hk) (pk_le pn k (fun z => ?_) (fun z => ⟨vp_i (by omega) (by decide), ?_⟩) e1)
  · rw [if_neg (by omega)] at h
    exact h
  · rw [if_pos z] at h
    rw [cl_i hk, e2 k z]
    exact h
theorem sM_at {pn k : Nat} {pg : Nat → Nat} {M : Mm} {post : Int32 → Mm → Prop} (e1 : M.1 0 19 = nI pn) (h52 : pn ≤ 52) (e2 : ∀ i, i < pn → M.1 13 i = nI (pg i)) (hk : k < 2 ^ 31) (h : post (nI (cd pn pg k)) M) : w_X12_at (nI k) M post := by
  unfold w_X12_at
  unfold cd at h
  refine pk_le pn k (fun z => ?_) (fun z => ⟨vp_i (by omega) (by decide), ?_⟩) e1
  · rw [if_neg (by omega)] at h
    exact h
  · rw [if_pos z] at h
    rw [cl_i hk, e2 k z]
    exact h
theorem cd_le {pn : Nat} {pg : Nat → Nat} (h : ∀ i, i < pn → 32 ≤ pg i ∧ pg i ≤ 126) (k : Nat) : cd pn pg k ≤ 126 := by
  unfold cd
  split
  · rename_i z
    exact (h k z).2
  · omega
theorem cd_in {pn : Nat} {pg : Nat → Nat} {k : Nat} (h : cd pn pg k ≠ 0) : k < pn := by
  unfold cd at h
  by_cases z : k < pn
  · exact z
  · rw [if_neg z] at h
    exact absurd rfl h
theorem i48 : (48 : Int32) = nI 48 := rfl
theorem dg_lt {c lo : Nat} (hc : c < 1000) (hl : lo < 1000) : (nI c - 48 : Int32) < nI lo ↔ c < lo + 48 := by
  rw [Int32.lt_iff_toInt_lt, i48, pk_sub_toInt (by omega) (by decide), nI_toInt (by omega)]
  omega
theorem dg_gt {c hi : Nat} (hc : c < 1000) (hl : hi < 1000) : nI hi < (nI c - 48 : Int32) ↔ hi + 48 < c := by
  rw [Int32.lt_iff_toInt_lt, i48, pk_sub_toInt (by omega) (by decide), nI_toInt (by omega)]
  omega
/-- the page on the class's side, on the reference's -/
def XP (pn : Nat) (pg : Nat → Nat) (M : Mm) : Prop := M.1 1 1 = nI pn ∧ pn ≤ 52 ∧ (∀ i, i < pn → M.1 2 i = nI (pg i)) ∧ ∀ i, i < pn → 32 ≤ pg i ∧ pg i ≤ 126
def MP (pn : Nat) (pg : Nat → Nat) (M : Mm) : Prop := M.1 0 19 = nI pn ∧ pn ≤ 52 ∧ (∀ i, i < pn → M.1 13 i = nI (pg i)) ∧ ∀ i, i < pn → 32 ≤ pg i ∧ pg i ≤ 126
theorem XP.code {pn k : Nat} {pg : Nat → Nat} {M : Mm} {post : Int32 → Mm → Prop} (hP : XP pn pg M) (hk : k < 2 ^ 31) (h : post (nI (cd pn pg k)) M) : w_X5_codeAt (nI k) M post := sX_code hP.1 hP.2.1 hP.2.2.1 hk h
theorem MP.at {pn k : Nat} {pg : Nat → Nat} {M : Mm} {post : Int32 → Mm → Prop} (hP : MP pn pg M) (hk : k < 2 ^ 31) (h : post (nI (cd pn pg k)) M) : w_X12_at (nI k) M post := sM_at hP.1 hP.2.1 hP.2.2.1 hk h
theorem sX_digit {pn k lo hi : Nat} {pg : Nat → Nat} {M : Mm} {post : Int32 → Mm → Prop} (hP : XP pn pg M) (hk : k < 2 ^ 31) (hl : lo < 1000) (hh : hi < 1000) (h1 : lo + 48 ≤ cd pn pg k → cd pn pg k ≤ hi + 48 → post 1 M) (h0 : ¬ (lo + 48 ≤ cd pn pg k ∧ cd pn pg k ≤ hi + 48) → post 0 M) : w_X5_isDigit (nI k) (nI lo) (nI hi) M post := by
  have cl := cd_le hP.2.2.2 k
  unfold w_X5_isDigit
  refine hP.code hk ⟨fun z => h0 ?_, fun z => ⟨fun y => h0 ?_, fun y => h1 ?_ ?_⟩⟩
  · have := (dg_lt (by omega) hl).mp z
    omega
  · have := (dg_gt (by omega) hh).mp y
    omega
  · have : ¬ cd pn pg k < lo + 48 := fun q => z ((dg_lt (by omega) hl).mpr q)
    omega
  · have : ¬ hi + 48 < cd pn pg k := fun q => y ((dg_gt (by omega) hh).mpr q)
    omega
theorem sM_figure {pn k lo hi : Nat} {pg : Nat → Nat} {M : Mm} {post : Int32 → Mm → Prop} (hP : MP pn pg M) (hk : k < 2 ^ 31) (hl : lo < 1000) (hh : hi < 1000) (h1 : lo + 48 ≤ cd pn pg k → cd pn pg k ≤ hi + 48 → post 1 M) (h0 : ¬ (lo + 48 ≤ cd pn pg k ∧ cd pn pg k ≤ hi + 48) → post 0 M) : w_X12_isFigure (nI k) (nI lo) (nI hi) M post := by
  have cl := cd_le hP.2.2.2 k
  unfold w_X12_isFigure
  refine hP.at hk (sM_within (fun z y => h1 ?_ ?_) (fun z => h0 ?_))
  · have : ¬ cd pn pg k < lo + 48 := fun q => z ((dg_lt (by omega) hl).mpr q)
    omega
  · have : ¬ hi + 48 < cd pn pg k := fun q => y ((dg_gt (by omega) hh).mpr q)
    omega
  · rcases z with z | z
    · have := (dg_lt (by omega) hl).mp z
      omega
    · have := (dg_gt (by omega) hh).mp z
      omega
def kix (c : Nat) : Int32 := if c = 99 then 0 else if c = 98 then 1 else if c = 109 then 2 else if c = 119 then 3 else if c = 108 then 4 else -1
def kd (c : Nat) : Prop := c = 99 ∨ c = 98 ∨ c = 109 ∨ c = 119 ∨ c = 108
theorem kix_or (c : Nat) : (kd c ∧ ∃ k, k ≤ 4 ∧ kix c = nI k) ∨ (¬ kd c ∧ kix c = -1) := by
  unfold kix kd
  by_cases c1 : c = 99
  · rw [if_pos c1]; exact Or.inl ⟨Or.inl c1, 0, by decide, rfl⟩
  · rw [if_neg c1]
    by_cases c2 : c = 98
    · rw [if_pos c2]; exact Or.inl ⟨by omega, 1, by decide, rfl⟩
    · rw [if_neg c2]
      by_cases c3 : c = 109
      · rw [if_pos c3]; exact Or.inl ⟨by omega, 2, by decide, rfl⟩
      · rw [if_neg c3]
        by_cases c4 : c = 119
        · rw [if_pos c4]; exact Or.inl ⟨by omega, 3, by decide, rfl⟩
        · rw [if_neg c4]
          by_cases c5 : c = 108
          · rw [if_pos c5]; exact Or.inl ⟨by omega, 4, by decide, rfl⟩
          · rw [if_neg c5]; exact Or.inr ⟨by omega, rfl⟩
theorem sM_kindBy {c : Nat} {M : Mm} {post : Int32 → Mm → Prop} (hc : c ≤ 126) (h : post (kix c) M) : w_X12_kindBy (nI c) M post := by
  unfold w_X12_kindBy
  unfold kix at h
  refine pk_eq c 98 (fun z => ?_) (fun z => pk_eq c 99 (fun y => ?_) (fun y => pk_eq c 108 (fun x => ?_) (fun x => pk_eq c 109 (fun w => ?_) (fun w => pk_eq c 119 (fun u => ?_) (fun u => ?_)))))
  · rw [if_neg (by omega), if_pos z] at h; exact h
  · rw [if_pos y] at h; exact h
  · rw [if_neg (by omega), if_neg (by omega), if_neg (by omega), if_neg (by omega), if_pos x] at h; exact h
  · rw [if_neg (by omega), if_neg (by omega), if_pos w] at h; exact h
  · rw [if_neg (by omega), if_neg (by omega), if_neg (by omega), if_pos u] at h; exact h
  · rw [if_neg (by omega), if_neg (by omega), if_neg (by omega), if_neg (by omega), if_neg (by omega)] at h; exact h
theorem sX_kindAt {pn k : Nat} {pg : Nat → Nat} {M : Mm} {post : Int32 → Mm → Prop} (hP : XP pn pg M) (hk : k < 2 ^ 31) (h : post (kix (cd pn pg k)) M) : w_X5_kindAt (nI k) M post := by
  have cl := cd_le hP.2.2.2 k
  unfold w_X5_kindAt
  refine hP.code hk ?_
  generalize cd pn pg k = c at cl h ⊢
  have ec : ((nI c).toUInt32 % 65536).toInt32 = nI c := by
    rw [pk_char, pk_tn (by omega), Nat.mod_eq_of_lt (by omega)]
  rw [ec]
  unfold w_J1_indexOf_4cfef w_J1_canEncode_9a6ad
  refine pb_f (nI_pos (by omega)) (pb_f (nI_nlt (a := 255) (b := c) (by omega) (by decide)) (pn_1 ?_))
  have i1 : (if (0 : Int32) < (0 : Int32) then (0 : Int32) else 0) = nI 0 := by decide
  have i2 : (if (5 : Int32) < (5 : Int32) then (5 : Int32) else 5) = nI 5 := by decide
  rw [i1, i2]
  refine pb_t (by decide) ⟨6, ?_⟩
  rw [nb8 (by omega)]
  have st : ∀ n j (d : Nat), j < 5 → ([99, 98, 109, 119, 108] : List Int32).getD j 0 = nI d → d < 1000 → (d ≠ c → w_J1_indexOfChar_4cfef_7 post n (nI 5) (nI c) (nI (j + 1)) M) → (d = c → post (nI j) M) → w_J1_indexOfChar_4cfef_7 post (n + 1) (nI 5) (nI c) (nI j) M := by
    intro n j d hj hd hd2 g1 g2
    refine pk_le 5 j (fun z => absurd z (by omega)) (fun _ => ⟨vp_i (by omega) (by decide), ?_⟩)
    rw [cl_i (by omega), hd, nI_1]
    exact re_ d c g1 g2
  unfold kix at h
  refine st 5 0 99 (by decide) rfl (by decide) (fun z0 => st 4 1 98 (by decide) rfl (by decide) (fun z1 => st 3 2 109 (by decide) rfl (by decide) (fun z2 => st 2 3 119 (by decide) rfl (by decide) (fun z3 => st 1 4 108 (by decide) rfl (by decide) (fun z4 => ?_) (fun z4 => ?_)) (fun z3 => ?_)) (fun z2 => ?_)) (fun z1 => ?_)) (fun z0 => ?_)
  · rw [if_neg (by omega), if_neg (by omega), if_neg (by omega), if_neg (by omega), if_neg (by omega)] at h
    exact pb_t (by decide) h
  · rw [if_neg (by omega), if_neg (by omega), if_neg (by omega), if_neg (by omega), if_pos (by omega)] at h
    exact h
  · rw [if_neg (by omega), if_neg (by omega), if_neg (by omega), if_pos (by omega)] at h
    exact h
  · rw [if_neg (by omega), if_neg (by omega), if_pos (by omega)] at h
    exact h
  · rw [if_neg (by omega), if_pos (by omega)] at h
    exact h
  · rw [if_pos (by omega)] at h
    exact h
/-- where the passages end -/
def IsB (pn : Nat) (c : Nat → Nat) (B : Nat) : Prop := (B = pn ∧ ∀ j, 5 + 4 * j < pn → c (5 + 4 * j) ≠ 59) ∨ ∃ j, B = 5 + 4 * j ∧ B < pn ∧ c B = 59 ∧ ∀ i, i < j → c (5 + 4 * i) ≠ 59
theorem IsB_ex (pn : Nat) (c : Nat → Nat) : ∃ B, IsB pn c B := by
  by_cases h : ∃ j, 5 + 4 * j < pn ∧ c (5 + 4 * j) = 59
  · obtain ⟨j, h1, h2⟩ := pk_least (fun j => 5 + 4 * j < pn ∧ c (5 + 4 * j) = 59) h
    exact ⟨5 + 4 * j, Or.inr ⟨j, rfl, h1.1, h1.2, fun i hi q => h2 i hi ⟨by omega, q⟩⟩⟩
  · exact ⟨pn, Or.inl ⟨rfl, fun j hj q => h ⟨j, hj, q⟩⟩⟩
theorem IsB.le {pn B : Nat} {c : Nat → Nat} (h : IsB pn c B) : B ≤ pn := by
  rcases h with h | ⟨j, h1, h2, -⟩
  · omega
  · omega
theorem sX_border {pn B : Nat} {pg : Nat → Nat} {M : Mm} {post : Int32 → Mm → Prop} (hP : XP pn pg M) (hB : IsB pn (cd pn pg) B) (h : post (nI B) M) : w_X5_border M post := by
  obtain ⟨e1, h52, e2, e3⟩ := hP
  rcases hB with ⟨rfl, hn⟩ | ⟨J, rfl, hl, hc, hn⟩
  · have key : ∀ m j, j + m = 12 → w_X5_border_2 post (m + 1) (nI (5 + 4 * j)) M := by
      intro m
      induction m with
      | zero =>
        intro j hj
        exact pk_le B (5 + 4 * j) (fun _ => by rw [e1]; exact h) (fun z => absurd z (by omega)) e1
      | succ m ih =>
        intro j hj
        refine pk_le B (5 + 4 * j) (fun _ => by rw [e1]; exact h) (fun z => ⟨vp_i (by omega) (by decide), ?_⟩) e1
        have hcd : cd B pg (5 + 4 * j) = pg (5 + 4 * j) := if_pos z
        have b := e3 _ z
        rw [cl_i (by omega), e2 _ z]
        refine re_ (pg (5 + 4 * j)) 59 (fun y => ?_) (fun y => absurd (hcd.trans y) (hn j z))
        have e4 : nI (5 + 4 * j) + 4 = nI (5 + 4 * (j + 1)) := by
          rw [pi_4, nI_add]
          exact congrArg nI (by omega)
        rw [e4]
        exact ih (j + 1) (by omega)
    exact ⟨13, key 12 0 rfl⟩
  · have key : ∀ m j, j + m = J → w_X5_border_2 post (m + 1) (nI (5 + 4 * j)) M := by
      intro m
      induction m with
      | zero =>
        intro j hj
        obtain rfl : j = J := by omega
        refine pk_le pn (5 + 4 * j) (fun z => absurd z (by omega)) (fun z => ⟨vp_i (by omega) (by decide), ?_⟩) e1
        have hcd : cd pn pg (5 + 4 * j) = pg (5 + 4 * j) := if_pos z
        have b := e3 _ z
        rw [cl_i (by omega), e2 _ z]
        exact re_ (pg (5 + 4 * j)) 59 (fun y => absurd (hcd.symm.trans hc) y) (fun _ => h)
      | succ m ih =>
        intro j hj
        refine pk_le pn (5 + 4 * j) (fun z => absurd z (by omega)) (fun z => ⟨vp_i (by omega) (by decide), ?_⟩) e1
        have hcd : cd pn pg (5 + 4 * j) = pg (5 + 4 * j) := if_pos z
        have b := e3 _ z
        rw [cl_i (by omega), e2 _ z]
        refine re_ (pg (5 + 4 * j)) 59 (fun y => ?_) (fun y => absurd (hcd.trans y) (hn j (by omega)))
        have e4 : nI (5 + 4 * j) + 4 = nI (5 + 4 * (j + 1)) := by
          rw [pi_4, nI_add]
          exact congrArg nI (by omega)
        rw [e4]
        exact ih (j + 1) (by omega)
    exact ⟨J + 1, key J 0 (by omega)⟩
def Fit (c : Nat → Nat) (B k : Nat) : Prop := (k = 0 → 50 ≤ c 0 ∧ c 0 ≤ 53) ∧ (k = 1 → c 1 = 59) ∧ (2 ≤ k → k < B → ((k - 2) % 4 = 0 → 48 ≤ c k ∧ c k < c 0) ∧ ((k - 2) % 4 = 1 → 48 ≤ c k ∧ c k < c 0 ∧ c k ≠ c (k - 1)) ∧ ((k - 2) % 4 = 2 → 49 ≤ c k ∧ c k ≤ 57) ∧ ((k - 2) % 4 = 3 → c k = 44 ∧ k < 26)) ∧ (2 ≤ k → B < k → ((k - B - 1) % 4 = 0 → kd (c k)) ∧ ((k - B - 1) % 4 = 1 ∨ (k - B - 1) % 4 = 2 → 48 ≤ c k ∧ c k ≤ 57) ∧ ((k - B - 1) % 4 = 3 → c k = 44 ∧ k - B - 1 < 16))
theorem sX_fitsP {pn k B : Nat} {pg : Nat → Nat} {M : Mm} {post : Int32 → Mm → Prop} (hP : XP pn pg M) (hk : k < pn) (h2 : 2 ≤ k) (hkB : k < B) (h0c : 50 ≤ cd pn pg 0 ∧ cd pn pg 0 ≤ 53) (h1 : Fit (cd pn pg) B k → post 1 M) (h0 : ¬ Fit (cd pn pg) B k → post 0 M) : w_X5_fitsPassage (nI k) M post := by
  have h52 := hP.2.1
  have cl := cd_le hP.2.2.2 k
  have cl1 := cd_le hP.2.2.2 (k - 1)
  unfold w_X5_fitsPassage w_X5_digitAt
  refine hP.code (k := 0) (by omega) ?_
  have e0 : nI (cd pn pg 0) - 48 - 1 = nI (cd pn pg 0 - 49) := by
    rw [i48, pk_sub (by omega), pi_1, pk_sub (by omega)]
    exact congrArg nI (by omega)
  have e2 : nI k - 2 = nI (k - 2) := by rw [pi_2, pk_sub (by omega)]
  dsimp only
  rw [e0, e2, pi_4, pk_rem (by omega) (by decide) (by decide)]
  have m4 : (k - 2) % 4 < 4 := Nat.mod_lt _ (by decide)
  have fit : Fit (cd pn pg) B k ↔ (((k - 2) % 4 = 0 → 48 ≤ cd pn pg k ∧ cd pn pg k < cd pn pg 0) ∧ ((k - 2) % 4 = 1 → 48 ≤ cd pn pg k ∧ cd pn pg k < cd pn pg 0 ∧ cd pn pg k ≠ cd pn pg (k - 1)) ∧ ((k - 2) % 4 = 2 → 49 ≤ cd pn pg k ∧ cd pn pg k ≤ 57) ∧ ((k - 2) % 4 = 3 → cd pn pg k = 44 ∧ k < 26)) := ⟨fun q => q.2.2.1 h2 hkB, fun q => ⟨fun z => absurd z (by omega), fun z => absurd z (by omega), fun _ _ => q, fun _ z => absurd z (by omega)⟩⟩
  rw [fit] at h1 h0
  refine pk_eq ((k - 2) % 4) 0 (fun z => ?_) (fun z => pk_eq ((k - 2) % 4) 1 (fun y => ?_) (fun y => pk_eq ((k - 2) % 4) 2 (fun x => ?_) (fun x => ?_)))
  · exact sX_digit (lo := 0) hP (by omega) (by omega) (by omega) (fun a b => h1 (by omega)) (fun a => h0 (by omega))
  · refine sX_digit (lo := 0) hP (by omega) (by omega) (by omega) (fun a b => pb_1 (hP.code (by omega) ?_)) (fun a => pb_0 (h0 (by omega)))
    have e1 : nI k - 1 = nI (k - 1) := by rw [pi_1, pk_sub (by omega)]
    rw [e1]
    refine hP.code (by omega) (pk_eq (cd pn pg k) (cd pn pg (k - 1)) (fun w => h0 (by omega)) (fun w => h1 (by omega)))
  · exact sX_digit (lo := 1) (hi := 9) hP (by omega) (by omega) (by omega) (fun a b => h1 (by omega)) (fun a => h0 (by omega))
  · refine hP.code (by omega) (re_ (cd pn pg k) 44 (fun w => h0 (by omega)) (fun w => pk_le 24 (k - 2) (fun u => h0 (by omega)) (fun u => h1 (by omega))))
theorem sX_fitsQ {pn k B : Nat} {pg : Nat → Nat} {M : Mm} {post : Int32 → Mm → Prop} (hP : XP pn pg M) (hk : k < pn) (h2 : 2 ≤ k) (hkB : B < k) (h1 : Fit (cd pn pg) B k → post 1 M) (h0 : ¬ Fit (cd pn pg) B k → post 0 M) : w_X5_fitsPerson (nI k) (nI (k - B - 1)) M post := by
  have h52 := hP.2.1
  have cl := cd_le hP.2.2.2 k
  unfold w_X5_fitsPerson
  rw [pi_4, pk_rem (by omega) (by decide) (by decide)]
  have m4 : (k - B - 1) % 4 < 4 := Nat.mod_lt _ (by decide)
  have fit : Fit (cd pn pg) B k ↔ (((k - B - 1) % 4 = 0 → kd (cd pn pg k)) ∧ ((k - B - 1) % 4 = 1 ∨ (k - B - 1) % 4 = 2 → 48 ≤ cd pn pg k ∧ cd pn pg k ≤ 57) ∧ ((k - B - 1) % 4 = 3 → cd pn pg k = 44 ∧ k - B - 1 < 16)) := ⟨fun q => q.2.2.2 h2 hkB, fun q => ⟨fun z => absurd z (by omega), fun z => absurd z (by omega), fun _ z => absurd z (by omega), fun _ _ => q⟩⟩
  rw [fit] at h1 h0
  refine pk_eq ((k - B - 1) % 4) 0 (fun z => ?_) (fun z => pk_eq ((k - B - 1) % 4) 1 (fun y => ?_) (fun y => pk_eq ((k - B - 1) % 4) 2 (fun x => ?_) (fun x => ?_)))
  · refine sX_kindAt hP (by omega) ?_
    rcases kix_or (cd pn pg k) with ⟨q, j, j4, e⟩ | ⟨q, e⟩
    · rw [e]
      exact pb_f (nI_pos (by omega)) (h1 ⟨fun _ => q, by omega, by omega⟩)
    · rw [e]
      exact pb_t (by decide) (h0 (fun w => q (w.1 z)))
  · exact sX_digit (lo := 0) (hi := 9) hP (by omega) (by omega) (by omega) (fun a b => h1 ⟨fun w => absurd w z, by omega, by omega⟩) (fun a => h0 (fun w => a (by have := w.2.1 (Or.inl y); omega)))
  · exact sX_digit (lo := 0) (hi := 9) hP (by omega) (by omega) (by omega) (fun a b => h1 ⟨fun w => absurd w z, by omega, by omega⟩) (fun a => h0 (fun w => a (by have := w.2.1 (Or.inr x); omega)))
  · refine hP.code (by omega) (re_ (cd pn pg k) 44 (fun w => h0 (fun q => w (q.2.2 (by omega)).1)) (fun w => pk_le 16 (k - B - 1) (fun u => h0 (fun q => by have := q.2.2 (by omega); omega)) (fun u => h1 ⟨fun q => absurd q z, by omega, by omega⟩)))
theorem sX_fits {pn k B : Nat} {pg : Nat → Nat} {M : Mm} {post : Int32 → Mm → Prop} (hP : XP pn pg M) (hk : k < pn) (hB : B ≤ pn) (h0c : k ≠ 0 → 50 ≤ cd pn pg 0 ∧ cd pn pg 0 ≤ 53) (hB5 : 2 ≤ B ∨ B = pn) (h1 : Fit (cd pn pg) B k → post 1 M) (h0 : ¬ Fit (cd pn pg) B k → post 0 M) : w_X5_fits (nI k) (nI B) M post := by
  have h52 := hP.2.1
  have cl := cd_le hP.2.2.2 k
  unfold w_X5_fits
  refine re_ k 0 (fun z => re_ k 1 (fun y => pk_le B k (fun x => pk_eq k B (fun w => ?_) (fun w => ?_)) (fun x => ?_)) (fun y => ?_)) (fun z => ?_)
  · exact h1 ⟨fun q => absurd q z, fun q => absurd q y, fun _ q => absurd q (by omega), fun _ q => absurd q (by omega)⟩
  · have eo : nI k - nI B - 1 = nI (k - B - 1) := by
      rw [pk_sub (by omega), pi_1, pk_sub (by omega)]
    rw [eo]
    exact sX_fitsQ hP hk (by omega) (by omega) (fun q => pb_1 (h1 q)) (fun q => pb_0 (h0 q))
  · exact sX_fitsP hP hk (by omega) x (h0c z) h1 h0
  · subst y
    refine hP.code (k := 1) (by omega) (re_ (cd pn pg 1) 59 (fun w => h0 (fun q => w (q.2.1 rfl))) (fun w => h1 ⟨fun q => absurd q z, fun _ => w, fun q => absurd q (by omega), fun q => absurd q (by omega)⟩))
  · subst z
    exact sX_digit (k := 0) (lo := 2) (hi := 5) hP (by omega) (by omega) (by omega) (fun a b => h1 ⟨fun _ => by omega, fun q => absurd q (by omega), fun q => absurd q (by omega), fun q => absurd q (by omega)⟩) (fun a => h0 (fun q => a (by have := q.1 rfl; omega)))
def OkF (pn : Nat) (c : Nat → Nat) (B r : Nat) : Prop := r ≤ pn ∧ (∀ k, k < r → Fit c B k) ∧ (r < pn → ¬ Fit c B r)
theorem sX_ff {pn B r : Nat} {pg : Nat → Nat} {M : Mm} {post : Int32 → Mm → Prop} (hP : XP pn pg M) (hB : IsB pn (cd pn pg) B) (hr : OkF pn (cd pn pg) B r) (h : post (nI r) M) : w_X5_firstFault M post := by
  have h52 := hP.2.1
  obtain ⟨r1, r2, r3⟩ := hr
  have Bl := hB.le
  have B5 : 2 ≤ B ∨ B = pn := by
    rcases hB with q | ⟨j, q, -⟩
    · exact Or.inr q.1
    · exact Or.inl (by omega)
  have key : ∀ m k, k + m = r → w_X5_firstFault_7 post (m + 1) (nI B) (nI k) M := by
    intro m
    induction m with
    | zero =>
      intro k hk
      obtain rfl : k = r := by omega
      refine pk_le pn k (fun z => ?_) (fun z => ?_) hP.1
      · rw [hP.1, show pn = k by omega]
        exact h
      · exact sX_fits hP z Bl (fun q => (r2 0 (by omega)).1 rfl) B5 (fun q => absurd q (r3 z)) (fun _ => pn_0 h)
    | succ m ih =>
      intro k hk
      refine pk_le pn k (fun z => absurd z (by omega)) (fun z => ?_) hP.1
      refine sX_fits hP z Bl (fun q => (r2 0 (by omega)).1 rfl) B5 (fun _ => pn_1 ?_) (fun q => absurd (r2 k (by omega)) q)
      rw [nI_1]
      exact ih (k + 1) (by omega)
  unfold w_X5_firstFault
  exact sX_border hP hB ⟨r + 1, key r 0 (by omega)⟩
