/-! ===== pairs: the reference's odometer, and both ===== -/
def oP (M M1 : Mm) : Prop := (∀ q, q ≠ 18 → q ≠ 19 → M1.1 q = M.1 q) ∧ M1.2 = M.2
theorem oP.hm {M M1 : Mm} {s : Nat → Nat} {f : Nat → Nat → Nat} (h : oP M M1) (hM : HM M s f) : HM M1 s f := hM.cg (fun k hk => by rw [h.1 0 (by decide) (by decide)]) (fun n a b => h.1 n (by omega) (by omega))
theorem oP.co {M M1 : Mm} (h : oP M M1) : coM M M1 := ⟨fun j _ _ _ => by rw [h.1 0 (by decide) (by decide)], fun n hn => h.1 n (by omega) (by omega)⟩
def PMs (s : Nat → Nat) (a : Nat → Nat) (c : Pg) (M : Mm) : Prop := (∀ q, q < 5 → M.1 18 q = nI (a q)) ∧ (∀ q, q < 5 → M.1 19 q = if c.1 < 1000000 ∧ q < s 2 then nI (c.2.2 q) else 0) ∧ ∀ q, a q ≤ s 2
theorem sM_arePairs {M : Mm} {s : Nat → Nat} {f : Nat → Nat → Nat} {T : Nat} {a : Nat → Nat} {post : Int32 → Mm → Prop} (hM : HM M s f) (hV : Vt T s f) (hr : ∀ q, q < 5 → M.1 18 q = nI (a q)) (ha : ∀ q, a q ≤ s 2) (h1 : okA a (s 2) = true → post 1 M) (h0 : okA a (s 2) = false → post 0 M) : w_X12_arePairs M post := by
  have hs := hV.1.2.2.1
  have zer : ∀ m v, v + m = s 2 → post 0 M → w_X12_arePairs_4 post (m + 1) 0 (nI v) M := by
    intro m
    induction m with
    | zero =>
      intro v hv g
      exact pk_le (s 2) v (fun _ => g) (fun z => absurd z (by omega)) hM.people
    | succ m ih =>
      intro v hv g
      refine pk_le (s 2) v (fun z => absurd z (by omega)) (fun _ => ⟨vp_i (by omega) (by decide), pb_0 ?_⟩) hM.people
      rw [nI_1]
      exact ih (v + 1) (by omega) g
  have bad : ∀ v, v < s 2 → ¬ (a v = 0 ∨ (a v ≠ v + 1 ∧ a (a v - 1) = v + 1)) → post 0 M := by
    intro v hv hb
    refine h0 ?_
    cases e : okA a (s 2)
    · rfl
    · exact absurd (okA_get e v hv) hb
  have one : ∀ m v, v + m = s 2 → (∀ u, u < v → a u = 0 ∨ (a u ≠ u + 1 ∧ a (a u - 1) = u + 1)) → w_X12_arePairs_4 post (m + 1) 1 (nI v) M := by
    intro m
    induction m with
    | zero =>
      intro v hv g
      obtain rfl : v = s 2 := by omega
      exact pk_le (s 2) (s 2) (fun _ => h1 (okA_mk g)) (fun z => absurd z (by omega)) hM.people
    | succ m ih =>
      intro v hv g
      have good : (a v = 0 ∨ (a v ≠ v + 1 ∧ a (a v - 1) = v + 1)) → w_X12_arePairs_4 post (m + 1) 1 (nI (v + 1)) M := by
        intro hg
        refine ih (v + 1) (by omega) (fun u hu => ?_)
        by_cases w : u = v
        · rw [w]; exact hg
        · exact g u (by omega)
      have av := ha v
      refine pk_le (s 2) v (fun z => absurd z (by omega)) (fun _ => ⟨vp_i (by omega) (by decide), pb_1 ?_⟩) hM.people
      rw [cl_i (show v < 2 ^ 31 by omega), hr v (by omega)]
      unfold w_X12_arePairs_46
      rw [nI_1]
      rcases w_cases (a v) with ⟨e0, e⟩ | ⟨j, e0, e⟩
      · rw [e]
        exact pb_t (by decide) (good (Or.inl e0))
      · rw [e]
        have aj := ha j
        refine pb_f (nI_pos (by omega)) (pk_eq j v (fun z => zer m (v + 1) (by omega) (bad v (by omega) (by omega))) (fun z => ⟨vp_i (by omega) (by decide), ?_⟩))
        rw [cl_i (show j < 2 ^ 31 by omega), hr j (by omega)]
        have ej : a v - 1 = j := by omega
        refine re_ (a j) (v + 1) (fun y => zer m (v + 1) (by omega) (bad v (by omega) (fun q => ?_))) (fun y => good (Or.inr ⟨by omega, by rw [ej]; exact y⟩))
        rcases q with q | q
        · omega
        · rw [ej] at q
          exact y q.2
  exact ⟨s 2 + 1, one (s 2) 0 (by omega) (fun u hu => absurd hu (by omega))⟩
theorem mx_le {st : Nat → Nat → Nat} (hst : ∀ u w, st u w ≤ 108) (a : Nat → Nat) (n : Nat) : mx st a n ≤ 108 := by
  induction n with
  | zero => exact Nat.zero_le _
  | succ n ih =>
    show max (mx st a n) (st n (a n)) ≤ 108
    have := hst n (a n)
    omega
theorem ct_le (a : Nat → Nat) (n : Nat) : ct a n ≤ n := by
  induction n with
  | zero => exact Nat.le_refl _
  | succ n ih =>
    show ct a n + (if a n = 0 then 0 else 1) ≤ n + 1
    split <;> omega
theorem sM_most {p : Nat} {M : Mm} {s : Nat → Nat} {f : Nat → Nat → Nat} {T : Nat} {a : Nat → Nat} {post : Int32 → Mm → Prop} (hM : HM M s f) (hV : Vt T s f) (hp : p < s 1) (hr : ∀ q, q < 5 → M.1 18 q = nI (a q)) (ha : ∀ q, a q ≤ s 2) (h : post (nI (mx (stq s f p) a (s 2))) M) : w_X12_mostSteps (nI p) M post := by
  have hs := hV.1.2.2.1
  have key : ∀ m v, v + m = s 2 → w_X12_mostSteps_4 post (m + 1) (nI p) (nI (mx (stq s f p) a v)) (nI v) M := by
    intro m
    induction m with
    | zero =>
      intro v hv
      obtain rfl : v = s 2 := by omega
      exact pk_le (s 2) (s 2) (fun _ => h) (fun z => absurd z (by omega)) hM.people
    | succ m ih =>
      intro v hv
      have b1 := mx_le (stq_le hV hp) a v
      have b2 := stq_le hV hp v (a v)
      have e : mx (stq s f p) a (v + 1) = max (mx (stq s f p) a v) (stq s f p v (a v)) := rfl
      have ihv := ih (v + 1) (by omega)
      refine pk_le (s 2) v (fun z => absurd z (by omega)) (fun _ => ⟨vp_i (by omega) (by decide), ?_⟩) hM.people
      rw [cl_i (show v < 2 ^ 31 by omega), hr v (by omega)]
      refine sM_stepsOf hM hV (by omega) hp (ha v) ?_
      rw [← stq_in (p := p) (show v < s 2 by omega) (ha v), nI_1]
      refine pk_le (stq s f p v (a v)) (mx (stq s f p) a v) (fun z => ?_) (fun z => ?_)
      · rw [e, show max (mx (stq s f p) a v) (stq s f p v (a v)) = mx (stq s f p) a v by omega] at ihv
        exact ihv
      · rw [e, show max (mx (stq s f p) a v) (stq s f p v (a v)) = stq s f p v (a v) by omega] at ihv
        exact ihv
  exact ⟨s 2 + 1, key (s 2) 0 (by omega)⟩
theorem sM_together {M : Mm} {s : Nat → Nat} {f : Nat → Nat → Nat} {T : Nat} {a : Nat → Nat} {post : Int32 → Mm → Prop} (hM : HM M s f) (hV : Vt T s f) (hr : ∀ q, q < 5 → M.1 18 q = nI (a q)) (ha : ∀ q, a q ≤ s 2) (h : post (nI (ct a (s 2))) M) : w_X12_goTogether M post := by
  have hs := hV.1.2.2.1
  have key : ∀ m v, v + m = s 2 → w_X12_goTogether_4 post (m + 1) (nI (ct a v)) (nI v) M := by
    intro m
    induction m with
    | zero =>
      intro v hv
      obtain rfl : v = s 2 := by omega
      exact pk_le (s 2) (s 2) (fun _ => h) (fun z => absurd z (by omega)) hM.people
    | succ m ih =>
      intro v hv
      have av := ha v
      have e : ct a (v + 1) = ct a v + (if a v = 0 then 0 else 1) := rfl
      have ihv := ih (v + 1) (by omega)
      refine pk_le (s 2) v (fun z => absurd z (by omega)) (fun _ => ⟨vp_i (by omega) (by decide), ?_⟩) hM.people
      rw [cl_i (show v < 2 ^ 31 by omega), hr v (by omega), nI_1]
      refine pk_le (a v) 0 (fun z => ?_) (fun z => ?_)
      · rw [e, if_pos (by omega)] at ihv
        rw [← nI_0, nI_add]
        exact ihv
      · rw [e, if_neg (by omega)] at ihv
        rw [nI_1]
        exact ihv
  exact ⟨s 2 + 1, key (s 2) 0 (by omega)⟩
def f2 (c : Pg) : Nat := if c.1 < 1000000 then c.2.1 else 268435456
theorem sM_podo {M0 : Mm} {s : Nat → Nat} {f : Nat → Nat → Nat} {T p : Nat} {post : Int32 → Mm → Prop} {v2 : Int32} (hM : HM M0 s f) (hV : Vt T s f) (hp : p < s 1) (hP : 1 ≤ s 2) (k : Nat) : ∀ (F : Nat) (a : Nat → Nat) (c : Pg) (M : Mm), k ≤ s 2 → oP M0 M → PMs s a c M → (∀ q, s 2 - k ≤ q → q < s 2 → a q = 0) → (c.1 ≤ 1000000 ∧ (c.1 < 1000000 → c.2.1 ≤ 100)) → (∀ (c1 : Pg) (M1 : Mm), c1 = EM (s 2) (stq s f p) k (s 2 - k) a c → (c1.1 ≤ 1000000 ∧ (c1.1 < 1000000 → c1.2.1 ≤ 100)) → oP M0 M1 → PMs s a c1 M1 → ∃ n0, w_X12_nextMates_7 (fun r9 M10 => w_X12_pairsNow_37 post F (nI p) v2 (nI (fx c1.1)) (nI (f2 c1)) r9 M10) n0 (nI (s 2 - k) - 1) M1) → w_X12_pairsNow_37 post (F + (s 2 + 1) ^ k) (nI p) v2 (nI (fx c.1)) (nI (f2 c)) 1 M := by
  have hs := hV.1.2.2.1
  induction k with
  | zero =>
    intro F a c M hk o1 hS ha hc hn
    have hM1 := o1.hm hM
    obtain ⟨S1, S2, S3⟩ := hS
    have e : EM (s 2) (stq s f p) 0 (s 2 - 0) a c = if okA a (s 2) = true then (if btb (mx (stq s f p) a (s 2)) (ct a (s 2)) c = true then (mx (stq s f p) a (s 2), ct a (s 2), a) else c) else c := rfl
    have b1 := fx_bd c.1
    have b2 := mx_le (stq_le hV hp) a (s 2)
    have b3 := ct_le a (s 2)
    have b4 : f2 c ≤ 268435456 := by
      unfold f2
      by_cases z : c.1 < 1000000
      · rw [if_pos z]
        have := hc.2 z
        omega
      · rw [if_neg z]
        exact Nat.le_refl _
    have stay : EM (s 2) (stq s f p) 0 (s 2 - 0) a c = c → w_X12_pairsNow_120 post (w_X12_pairsNow_37 post F) (nI p) v2 (nI (fx c.1)) (nI (f2 c)) M := by
      intro e2
      unfold w_X12_pairsNow_120 w_X12_nextMates
      rw [hM1.people]
      exact hn c M e2.symm hc o1 ⟨S1, S2, S3⟩
    have take : EM (s 2) (stq s f p) 0 (s 2 - 0) a c = (mx (stq s f p) a (s 2), ct a (s 2), a) → w_X12_pairsNow_81 post (w_X12_pairsNow_37 post F) (nI p) v2 (nI (mx (stq s f p) a (s 2))) (nI (ct a (s 2))) M := by
      intro e2
      have cp : ∀ m r (M1 : Mm), r + m = s 2 → oP M0 M1 → (∀ q, q < 5 → M1.1 18 q = nI (a q)) → (∀ q, q < r → M1.1 19 q = nI (a q)) → (∀ q, q < 5 → s 2 ≤ q → M1.1 19 q = 0) → w_X12_pairsNow_91 post (w_X12_pairsNow_37 post F) (m + 1) (nI p) v2 (nI (mx (stq s f p) a (s 2))) (nI (ct a (s 2))) (nI r) M1 := by
        intro m
        induction m with
        | zero =>
          intro r M1 hr o2 g2 g3 g4
          obtain rfl : r = s 2 := by omega
          have hM2 := o2.hm hM
          refine pk_le (s 2) (s 2) (fun _ => ?_) (fun z => absurd z (by omega)) hM2.people
          unfold w_X12_pairsNow_120 w_X12_nextMates
          rw [hM2.people]
          have g := hn (mx (stq s f p) a (s 2), ct a (s 2), a) M1 e2.symm ⟨by show mx (stq s f p) a (s 2) ≤ 1000000; omega, fun _ => by show ct a (s 2) ≤ 100; omega⟩ o2 ⟨g2, fun q hq => ?_, S3⟩
          · have e3 : fx (mx (stq s f p) a (s 2)) = mx (stq s f p) a (s 2) := if_pos (by omega)
            have e4 : f2 (mx (stq s f p) a (s 2), ct a (s 2), a) = ct a (s 2) := if_pos (by show mx (stq s f p) a (s 2) < 1000000; omega)
            rw [e4] at g
            have g' : ∃ n0, w_X12_nextMates_7 (fun r9 M10 => w_X12_pairsNow_37 post F (nI p) v2 (nI (fx (mx (stq s f p) a (s 2)))) (nI (ct a (s 2))) r9 M10) n0 (nI (s 2 - 0) - 1) M1 := g
            rw [e3] at g'
            exact g'
          · show M1.1 19 q = if mx (stq s f p) a (s 2) < 1000000 ∧ q < s 2 then nI (a q) else 0
            by_cases w : q < s 2
            · rw [if_pos ⟨by omega, w⟩]
              exact g3 q w
            · rw [if_neg (fun y => w y.2)]
              exact g4 q hq (by omega)
        | succ m ih =>
          intro r M1 hr o2 g2 g3 g4
          refine pk_le (s 2) r (fun z => absurd z (by omega)) (fun _ => ⟨vp_i (by omega) (by decide), fun M14 e14 => ?_⟩) (o2.hm hM).people
          rw [cl_i (by omega), g2 r (by omega)] at e14
          rw [nI_1]
          refine ih (r + 1) M14 (by omega) ⟨fun q a1 a2 => by rw [cpo e14 a2, o2.1 q a1 a2], by rw [e14]; exact o2.2⟩ (fun q hq => by rw [cpo e14 (by decide)]; exact g2 q hq) (fun q hq => ?_) (fun q hq q1 => ?_)
          · rw [e14, wI_same]
            by_cases w : q = r
            · rw [w, pk_us]
            · rw [pk_un w]
              exact g3 q (by omega)
          · rw [e14, wI_same, pk_un (by omega)]
            exact g4 q hq q1
      exact ⟨s 2 + 1, cp (s 2) 0 M (by omega) o1 S1 (fun q hq => absurd hq (by omega)) (fun q hq q1 => by rw [S2 q hq, if_neg (by omega)])⟩
    refine pb_1 (sM_arePairs hM1 hV S1 S3 (fun y => pb_1 ?_) (fun y => pb_0 (stay ?_)))
    · rw [if_pos y] at e
      refine sM_most hM1 hV hp S1 S3 (sM_together hM1 hV S1 S3 ?_)
      have lt : ¬ c.1 < 1000000 → c.1 = 1000000 := fun q => by have := hc.1; omega
      have yes : bt (mx (stq s f p) a (s 2)) (ct a (s 2)) c → EM (s 2) (stq s f p) 0 (s 2 - 0) a c = (mx (stq s f p) a (s 2), ct a (s 2), a) := fun q => by rw [e, if_pos (btb_t.mpr q)]
      have no : ¬ bt (mx (stq s f p) a (s 2)) (ct a (s 2)) c → EM (s 2) (stq s f p) 0 (s 2 - 0) a c = c := fun q => by rw [e, if_neg (by rw [btb_f.mpr q]; decide)]
      unfold bt at yes no
      by_cases z : c.1 < 1000000
      · have e3 : fx c.1 = c.1 := if_pos z
        have e4 : f2 c = c.2.1 := if_pos z
        have c2 := hc.2 z
        rw [e3, e4] at stay
        rw [e3, e4]
        exact pk_lt (mx (stq s f p) a (s 2)) c.1 (fun q => take (yes (Or.inl q))) (fun q => re_ (mx (stq s f p) a (s 2)) c.1 (fun w => stay (no (by omega))) (fun w => pk_le c.2.1 (ct a (s 2)) (fun u => stay (no (by omega))) (fun u => take (yes (Or.inr ⟨w, u⟩)))))
      · have e3 : fx c.1 = 268435456 := if_neg z
        rw [e3]
        have z1 := lt z
        exact pk_lt (mx (stq s f p) a (s 2)) 268435456 (fun q => take (yes (Or.inl (by omega)))) (fun q => absurd q (by omega))
    · rw [if_neg (by rw [y]; decide)] at e
      exact e
  | succ k ih =>
    intro F a c M hk o1 hS ha hc hn
    have e : EM (s 2) (stq s f p) (k + 1) (s 2 - (k + 1)) a c = fd (fun w c => EM (s 2) (stq s f p) k (s 2 - (k + 1) + 1) (upN a (s 2 - (k + 1)) w) c) (s 2 + 1) 0 c := rfl
    have er : s 2 - (k + 1) + 1 = s 2 - k := by omega
    rw [er] at e
    generalize hr : s 2 - (k + 1) = r at e hn
    have a0 : a r = 0 := ha r (by omega) (by omega)
    have inn : ∀ m w (c1 : Pg) (M1 : Mm), w + (m + 1) = s 2 + 1 → oP M0 M1 → PMs s (upN a r w) c1 M1 → (c1.1 ≤ 1000000 ∧ (c1.1 < 1000000 → c1.2.1 ≤ 100)) → (∀ (c2 : Pg) (M2 : Mm), c2 = fd (fun w c => EM (s 2) (stq s f p) k (s 2 - k) (upN a r w) c) (m + 1) w c1 → (c2.1 ≤ 1000000 ∧ (c2.1 < 1000000 → c2.2.1 ≤ 100)) → oP M0 M2 → PMs s a c2 M2 → ∃ n0, w_X12_nextMates_7 (fun r9 M10 => w_X12_pairsNow_37 post F (nI p) v2 (nI (fx c2.1)) (nI (f2 c2)) r9 M10) n0 (nI r - 1) M2) → w_X12_pairsNow_37 post (F + (m + 1) * (s 2 + 1) ^ k) (nI p) v2 (nI (fx c1.1)) (nI (f2 c1)) 1 M1 := by
      intro m
      induction m with
      | zero =>
        intro w c1 M1 hw o2 hS1 hc1 hn1
        rw [show F + (0 + 1) * (s 2 + 1) ^ k = F + (s 2 + 1) ^ k by omega]
        refine ih F (upN a r w) c1 M1 (by omega) o2 hS1 (fun q q1 q2 => by rw [upN_n (by omega)]; exact ha q (by omega) q2) hc1 (fun c2 M2 e2 hc2 o3 hS2 => ?_)
        have er2 : nI (s 2 - k) - 1 = nI r := by rw [show s 2 - k = r + 1 by omega, nI_pred]
        rw [er2]
        obtain ⟨T1, T2, T3⟩ := hS2
        have fin : ∀ M8 : Mm, M8 = wI M2 18 (upd (M2.1 18) r (0 : Int32)) → ∃ n0, w_X12_nextMates_7 (fun r9 M10 => w_X12_pairsNow_37 post F (nI p) v2 (nI (fx c2.1)) (nI (f2 c2)) r9 M10) n0 (nI r - 1) M8 := by
          intro M8 e8
          refine hn1 c2 M8 (by rw [e2]; rfl) hc2 ⟨fun q a1 a2 => by rw [cpo e8 a1, o3.1 q a1 a2], by rw [e8]; exact o3.2⟩ ⟨fun q hq => ?_, fun q hq => by rw [cpo e8 (by decide)]; exact T2 q hq, hS.2.2⟩
          rw [e8, wI_same]
          by_cases y : q = r
          · rw [y, pk_us, a0]
            rfl
          · rw [pk_un y, T1 q hq, upN_n y]
        obtain ⟨n0, hn0⟩ := fin _ rfl
        refine ⟨n0 + 1, ?_⟩
        refine pb_f (nI_pos (by omega)) ⟨vp_i (by omega) (by decide), ?_⟩
        rw [cl_i (by omega), T1 r (by omega), upN_s, (o3.hm hM).people]
        refine pn_t (by rw [show w = s 2 by omega]) (fun M8 e8 => ?_)
        rw [ni_m, e8]
        exact hn0
      | succ m ihm =>
        intro w c1 M1 hw o2 hS1 hc1 hn1
        rw [show F + (m + 1 + 1) * (s 2 + 1) ^ k = (F + (m + 1) * (s 2 + 1) ^ k) + (s 2 + 1) ^ k by rw [Nat.succ_mul (m + 1)]; omega]
        refine ih (F + (m + 1) * (s 2 + 1) ^ k) (upN a r w) c1 M1 (by omega) o2 hS1 (fun q q1 q2 => by rw [upN_n (by omega)]; exact ha q (by omega) q2) hc1 (fun c2 M2 e2 hc2 o3 hS2 => ?_)
        have er2 : nI (s 2 - k) - 1 = nI r := by rw [show s 2 - k = r + 1 by omega, nI_pred]
        rw [er2]
        obtain ⟨T1, T2, T3⟩ := hS2
        refine ⟨1, ?_⟩
        refine pb_f (nI_pos (by omega)) ⟨vp_i (by omega) (by decide), ?_⟩
        rw [cl_i (by omega), T1 r (by omega), upN_s, (o3.hm hM).people]
        refine pn_f (fun q => ?_) ?_
        · have := (nI_eq (by omega) (by omega)).mp q
          omega
        · unfold w_X12_nextMates_37
          refine pb_t (nI_pos' (by omega)) ⟨vp_i (by omega) (by decide), fun M3 e3 => ?_⟩
          rw [cl_i (by omega), T1 r (by omega), upN_s, nI_1] at e3
          refine ihm (w + 1) c2 M3 (by omega) ⟨fun q a1 a2 => by rw [cpo e3 a1, o3.1 q a1 a2], by rw [e3]; exact o3.2⟩ ⟨fun q hq => ?_, fun q hq => by rw [cpo e3 (by decide)]; exact T2 q hq, fun q => ?_⟩ hc2 (fun c3 M4 e4 => hn1 c3 M4 (by rw [e4, e2]; rfl))
          · rw [e3, wI_same]
            by_cases y : q = r
            · rw [y, pk_us, upN_s]
            · rw [pk_un y, T1 q hq, upN_n y, upN_n y]
          · by_cases y : q = r
            · rw [y, upN_s]; omega
            · rw [upN_n y]; exact hS.2.2 q
    have g := inn (s 2) 0 c M (by omega) o1 ⟨fun q hq => ?_, hS.2.1, fun q => ?_⟩ hc (fun c2 M2 e2 => hn c2 M2 (by rw [e2, e]))
    · rw [Nat.pow_succ, Nat.mul_comm]
      exact g
    · by_cases y : q = r
      · rw [y, upN_s, hS.1 r (by omega), a0]
      · rw [upN_n y]; exact hS.1 q hq
    · by_cases y : q = r
      · rw [y, upN_s]; omega
      · rw [upN_n y]; exact hS.2.2 q
theorem EM_0 {T p : Nat} {s : Nat → Nat} {f : Nat → Nat → Nat} (hV : Vt T s f) (hp : p < s 1) : EM (s 2) (stq s f p) (s 2) 0 (fun _ => 0) (1000000, 2000000, fun _ => 0) = pgF s f p := by
  refine EM_PE (s 2) (stq s f p) stq_sym (s 2) 0 (fun _ => 0) (fun _ => 0) (fun _ => false) 0 0 _ (by omega) ⟨fun _ _ => rfl, fun q q1 q2 => ⟨fun h => absurd h Bool.false_ne_true, fun _ u hu => absurd hu (by omega)⟩, fun u hu => absurd hu (by omega), rfl, ?_⟩
  have : ∀ n, pb (fun _ => false) 0 n = 0 := by
    intro n
    induction n with
    | zero => rfl
    | succ n ih =>
      show pb (fun _ => false) 0 n + (if 0 ≤ n ∧ false = true then 1 else 0) = 0
      rw [ih, if_neg (by simp)]
  rw [this]
  rfl
theorem sM_pairsNow {M : Mm} {s : Nat → Nat} {f : Nat → Nat → Nat} {T p : Nat} {post : Int32 → Mm → Prop} {v2 : Int32} (hM : HM M s f) (hV : Vt T s f) (hp : p < s 1) (hP : 1 ≤ s 2) (h : ∀ M1 : Mm, oP M M1 → (v2 = 0 ∧ post (nI (pgF s f p).1) M1) ∨ (∃ j, j ≤ 4 ∧ v2 = nI (10 + j) ∧ post (pvj s f p j) M1)) : w_X12_pairsNow (nI p) v2 M post := by
  have hs := hV.1.2.2.1
  have bd : (pgF s f p).1 ≤ 108 := PE_bd _ _ (stq_le hV hp) _ _ _ _ _ _ _ (by omega)
  have fin : ∀ M1 : Mm, oP M M1 → PMs s (fun _ => 0) (1000000, 2000000, fun _ => 0) M1 → ∃ n0, w_X12_pairsNow_37 post n0 (nI p) v2 268435456 268435456 1 M1 := by
    intro M1 o1 hS1
    refine ⟨1 + (s 2 + 1) ^ (s 2), ?_⟩
    refine sM_podo hM hV hp hP (s 2) 1 (fun _ => 0) (1000000, 2000000, fun _ => 0) M1 (Nat.le_refl _) o1 hS1 (fun _ _ _ => rfl) ⟨Nat.le_refl _, fun z => absurd z (by decide)⟩ (fun c1 M2 e1 hc1 o2 hS2 => ?_)
    rw [show s 2 - s 2 = 0 by omega] at e1 ⊢
    rw [EM_0 hV hp] at e1
    subst e1
    refine ⟨1, ?_⟩
    refine pb_t (by decide) ?_
    unfold w_X12_nextMates_37
    refine pb_f (by decide) (pb_0 ?_)
    rcases h M2 o2 with ⟨z, g⟩ | ⟨j, j4, z, g⟩
    · rw [z]
      refine pn_t rfl ?_
      rw [show fx (pgF s f p).1 = (pgF s f p).1 from if_pos (by omega)]
      exact g
    · rw [z]
      refine pn_f (nI_ne0 (by omega) (by omega)) ?_
      have ej : nI (10 + j) - 10 = nI j := by
        rw [show (10 : Int32) = nI 10 from rfl, pk_sub (by omega)]
        exact congrArg nI (by omega)
      rw [ej]
      refine ⟨vp_i (by omega) (by decide), ?_⟩
      rw [cl_i (by omega), hS2.2.1 j (by omega)]
      unfold pvj at g
      by_cases w : j < s 2
      · rw [if_pos w] at g
        rw [if_pos ⟨by omega, w⟩]
        exact g
      · rw [if_neg w] at g
        rw [if_neg (fun q => w q.2)]
        exact g
  have L2 : ∀ m v (M1 : Mm), v + m = 5 → oP M M1 → (∀ q, q < v → M1.1 18 q = 0 ∧ M1.1 19 q = 0) → w_X12_pairsNow_2 post (m + 1) (nI p) v2 (nI v) M1 := by
    intro m
    induction m with
    | zero =>
      intro v M1 hv o1 g2
      obtain rfl : v = 5 := by omega
      refine pb_t (by decide) (fin M1 o1 ⟨fun r hr => (g2 r hr).1, fun r hr => ?_, fun _ => Nat.zero_le _⟩)
      rw [(g2 r hr).2, if_neg (fun q => absurd q.1 (by decide))]
    | succ m ih =>
      intro v M1 hv o1 g2
      refine pk_le 5 v (fun z => absurd z (by omega)) (fun _ => ⟨vp_i (by omega) (by decide), fun M26 e26 M28 e28 => ?_⟩)
      rw [cl_i (by omega)] at e26 e28
      rw [nI_1]
      refine ih (v + 1) M28 (by omega) ⟨fun q a1 a2 => by rw [cpo e28 a2, cpo e26 a1, o1.1 q a1 a2], by rw [e28, e26]; exact o1.2⟩ (fun q hq => ⟨?_, ?_⟩)
      · rw [cpo e28 (by decide), e26, wI_same]
        by_cases w : q = v
        · rw [w, pk_us]
        · rw [pk_un w]; exact (g2 q (by omega)).1
      · rw [e28, wI_same]
        by_cases w : q = v
        · rw [w, pk_us]
        · rw [pk_un w, cpo e26 (by decide)]; exact (g2 q (by omega)).2
  exact ⟨6, L2 5 0 M rfl ⟨fun _ _ _ => rfl, rfl⟩ (fun q hq => absurd hq (by omega))⟩
theorem oW.co {M M1 : Mm} (h : oW M M1) : coX M M1 := fun n hn => h n (by omega)
theorem sim_pairs (k : Nat) (MX MM : Mm) (x1 x2 : Int32) (hk : k < 512) (hR : Rel k MX MM) : w_X11_pairs x1 x2 MX (fun r MX1 => w_X12_pairs x1 x2 MM (fun r1 MM1 => r = r1 ∧ Rel (k + 1) MX1 MM1)) := by
  have hR1 := hR.up
  obtain ⟨s, f, hX, hM, v, hR⟩ := hR.el
  have hs := v.1.2.2.1
  have hs1 := v.1.2.1
  unfold w_X11_pairs
  refine sX_hasPassage hX.passages (by omega) (fun h => pn_1 ?_) (fun h => pn_0 ?_)
  · have h' := h
    obtain ⟨p, hp, rfl⟩ := h
    have P1 : 1 ≤ s 2 := by rcases v.2.1 with y | y <;> omega
    refine ⟨fun z => ?_, fun z => ⟨fun z1 => ?_, fun z1 => ⟨fun z2 => ?_, fun z2 => ?_⟩⟩⟩
    · unfold w_X11_pairs_33
      refine sX_arrange hX v hp (fun M2 o2 g4 g9 => pn_t z ?_)
      rw [g4]
      unfold w_X12_pairs w_X12_pairs_26
      exact sM_isPassage hM.passages (by omega) (fun _ => pn_1 (pb_t z (sM_pairsNow hM v hp P1 (fun M3 o3 => Or.inl ⟨z, rfl, hR1.fr o2.co o3.co⟩)))) (fun a => absurd h' a)
    · unfold w_X12_pairs
      exact sM_isPassage hM.passages (by omega) (fun _ => pn_1 (pb_f z (sM_within (fun q _ => absurd z1 q) (fun _ => pb_0 ⟨rfl, hR1⟩)))) (fun a => absurd h' a)
    · obtain ⟨c, cl, ch, rfl⟩ := inR (lo := 10) (hi := 14) (by decide) z1 z2 (by decide)
      obtain ⟨j, rfl⟩ : ∃ j, c = 10 + j := ⟨c - 10, by omega⟩
      unfold w_X11_pairs_33
      refine sX_arrange hX v hp (fun M2 o2 g4 g9 => pn_f z ?_)
      have ej : nI (10 + j) - 10 = nI j := by
        rw [show (10 : Int32) = nI 10 from rfl, pk_sub (by omega)]
        exact congrArg nI (by omega)
      rw [ej]
      refine sX_partner (o2.hx hX) v (by omega) g9 ?_
      unfold w_X12_pairs w_X12_pairs_26
      refine sM_isPassage hM.passages (by omega) (fun _ => pn_1 (pb_f z (sM_within (fun _ _ => pb_1 (sM_pairsNow hM v hp P1 (fun M3 o3 => Or.inr ⟨j, by omega, rfl, rfl, hR1.fr o2.co o3.co⟩))) (fun q => ?_)))) (fun a => absurd h' a)
      rcases q with q | q
      · exact absurd q z1
      · exact absurd q (le_nlt.mp z2)
    · unfold w_X12_pairs
      exact sM_isPassage hM.passages (by omega) (fun _ => pn_1 (pb_f z (sM_within (fun _ q => absurd (le_nlt.mpr q) z2) (fun _ => pb_0 ⟨rfl, hR1⟩)))) (fun a => absurd h' a)
  · unfold w_X12_pairs
    exact sM_isPassage hM.passages (by omega) (fun a => absurd a h) (fun _ => pn_0 ⟨rfl, hR1⟩)
