/-! ===== send: the reference's odometer, and both ===== -/
def oS (M M1 : Mm) : Prop := ∀ q, q ≠ 14 → q ≠ 15 → q ≠ 16 → q ≠ 17 → M1.1 q = M.1 q
theorem oS.hm {M M1 : Mm} {s : Nat → Nat} {f : Nat → Nat → Nat} (h : oS M M1) (hM : HM M s f) : HM M1 s f := hM.cg (fun k hk => by rw [h 0 (by decide) (by decide) (by decide) (by decide)]) (fun n a b => h n (by omega) (by omega) (by omega) (by omega))
theorem oS.co {M M1 : Mm} (h : oS M M1) : coM M M1 := ⟨fun j _ _ _ => by rw [h 0 (by decide) (by decide) (by decide) (by decide)], fun n hn => h n (by omega) (by omega) (by omega) (by omega)⟩
def cM (s : Nat → Nat) (co : Nat → Nat → Nat) (M : Mm) : Prop := ∀ p r, p < s 2 → r < s 0 → M.1 17 (5 * p + r) = if co p r < 1000000 then nI (co p r) else -1
def SM (s : Nat → Nat) (co : Nat → Nat → Nat) (a : Nat → Nat) (c : Sg) (M : Mm) : Prop := cM s co M ∧ (∀ r, r < 5 → M.1 15 r = nI (a r)) ∧ (∀ r, r < 5 → M.1 16 r = if c.1 < 1000000 ∧ 1 ≤ r ∧ r < s 0 then nI (c.2 r) else -1) ∧ ∀ r, a r < s 2
theorem fx_le {a b : Nat} (ha : a ≤ 1000000) (hb : b ≤ 1000000) : fx a ≤ fx b ↔ a ≤ b := by
  unfold fx
  split <;> split <;> omega
theorem fx_bd (a : Nat) : fx a ≤ 268435456 := by
  unfold fx
  split <;> omega
theorem sM_sent {M : Mm} {s : Nat → Nat} {f : Nat → Nat → Nat} {co : Nat → Nat → Nat} {a : Nat → Nat} {c : Sg} {T : Nat} {post : Int32 → Mm → Prop} (hM : HM M s f) (hV : Vt T s f) (hco : ∀ p r, co p r ≤ 432 ∨ co p r = 1000000) (h2 : 2 ≤ s 0) (hS : SM s co a c M) (h : post (nI (fx (vl co (s 0 - 1) 1 a 0 0))) M) : w_X12_sentSteps M post := by
  have hs := hV.1.2.2.1
  have hs0 := hV.1.1
  obtain ⟨S1, S2, S3, S4⟩ := hS
  have key : ∀ k r x sum, r + k = s 0 → 1 ≤ r → sum + 432 * k ≤ 3000 → post (nI (fx (vl co k r a x sum))) M → w_X12_sentSteps_6 post (k + 1) (nI sum) x (nI r) M := by
    intro k
    induction k with
    | zero =>
      intro r x sum hr h1 hsum g
      have e : fx (vl co 0 r a x sum) = sum := if_pos (by show sum < 1000000; omega)
      rw [e] at g
      exact pk_le (s 0) r (fun _ => g) (fun z => absurd z (by omega)) hM.rooms
    | succ k ih =>
      intro r x sum hr h1 hsum g
      have ar := S4 r
      have g2 : post (nI (fx (if co (a r) r = 1000000 then 1000000 else if tS x (a r) = true then 1000000 else vl co k (r + 1) a (aX x (a r)) (sum + co (a r) r)))) M := g
      refine pk_le (s 0) r (fun z => absurd z (by omega)) (fun _ => ⟨vp_i (by omega) (by decide), ?_⟩) hM.rooms
      have e5 : (5 : Int32) * nI (a r) + nI r = nI (5 * a r + r) := by rw [pi_5, pk_mul, nI_add]
      rw [cl_i (show r < 2 ^ 31 by omega), S2 r (by omega), e5, cl_i (show 5 * a r + r < 2 ^ 31 by omega), S1 (a r) r ar (by omega)]
      refine ⟨vp_i (by omega) (by decide), ?_⟩
      rcases hco (a r) r with c1 | c1
      · rw [if_pos (show co (a r) r < 1000000 by omega)]
        rw [if_neg (show ¬ co (a r) r = 1000000 by omega)] at g2
        refine pb_f (ne_m1 (by omega)) (sM_isIn (fun y => pb_1 ?_) (fun y => pb_0 ?_))
        · rw [if_pos y] at g2
          exact g2
        · rw [if_neg (by rw [y]; decide)] at g2
          rw [S2 r (by omega), nI_add, nI_1]
          exact ih (r + 1) (aX x (a r)) (sum + co (a r) r) (by omega) (by omega) (by omega) g2
      · rw [if_neg (show ¬ co (a r) r < 1000000 by omega)]
        rw [if_pos c1] at g2
        exact pb_t rfl g2
  exact ⟨s 0, by
    have := key (s 0 - 1) 1 0 0 (by omega) (by omega) (by omega) h
    rw [show s 0 - 1 + 1 = s 0 by omega] at this
    exact this⟩
theorem ni_m (n : Nat) : nI n + (-1) = nI n - 1 := by
  rw [Int32.sub_eq_add_neg]
theorem sM_odo {M0 : Mm} {s : Nat → Nat} {f : Nat → Nat → Nat} {co : Nat → Nat → Nat} {T : Nat} {post : Int32 → Mm → Prop} {v1 : Int32} (hM : HM M0 s f) (hV : Vt T s f) (hco : ∀ p r, co p r ≤ 432 ∨ co p r = 1000000) (h2 : 2 ≤ s 0) (k : Nat) : ∀ (F : Nat) (a : Nat → Nat) (c : Sg) (M : Mm), k ≤ s 0 - 1 → oS M0 M → SM s co a c M → (∀ q, s 0 - k ≤ q → q < s 0 → a q = 0) → c.1 ≤ 1000000 → (∀ (c1 : Sg) (M1 : Mm), c1 = EN (s 2) (fun a => vl co (s 0 - 1) 1 a 0 0) k (s 0 - k) a c → c1.1 ≤ 1000000 → oS M0 M1 → SM s co a c1 M1 → ∃ n0, w_X12_nextSent_7 (fun r9 M10 => w_X12_sendNow_86 post F v1 (nI (fx c1.1)) r9 M10) n0 (nI (s 0 - k) - 1) M1) → w_X12_sendNow_86 post (F + (s 2) ^ k) v1 (nI (fx c.1)) 1 M := by
  have hs := hV.1.2.2.1
  have hs0 := hV.1.1
  induction k with
  | zero =>
    intro F a c M hk o1 hS ha hc hn
    have hM1 := o1.hm hM
    have vlo := vl_or co hco (s 0 - 1) 1 a 0 0
    have e : EN (s 2) (fun a => vl co (s 0 - 1) 1 a 0 0) 0 (s 0 - 0) a c = if vl co (s 0 - 1) 1 a 0 0 < c.1 then (vl co (s 0 - 1) 1 a 0 0, a) else c := rfl
    have b1 := fx_bd c.1
    have b2 := fx_bd (vl co (s 0 - 1) 1 a 0 0)
    have b3 := fx_le hc (show vl co (s 0 - 1) 1 a 0 0 ≤ 1000000 by omega)
    refine pb_1 (sM_sent hM1 hV hco h2 hS ?_)
    refine pk_le (fx c.1) (fx (vl co (s 0 - 1) 1 a 0 0)) (fun z => ?_) (fun z => ?_)
    · rw [if_neg (by omega)] at e
      unfold w_X12_sendNow_137 w_X12_nextSent
      rw [hM1.rooms]
      exact hn c M e.symm hc o1 hS
    · rw [if_pos (by omega)] at e
      obtain ⟨S1, S2, S3, S4⟩ := hS
      have cp : ∀ m r (M1 : Mm), r + m = s 0 → 1 ≤ r → oS M0 M1 → cM s co M1 → (∀ q, q < 5 → M1.1 15 q = nI (a q)) → (∀ q, q < 5 → 1 ≤ q → q < r → M1.1 16 q = nI (a q)) → (∀ q, q < 5 → (q < 1 ∨ s 0 ≤ q) → M1.1 16 q = -1) → w_X12_sendNow_108 post (w_X12_sendNow_86 post F) (m + 1) v1 (nI (fx (vl co (s 0 - 1) 1 a 0 0))) (nI r) M1 := by
        intro m
        induction m with
        | zero =>
          intro r M1 hr h1 o2 g1 g2 g3 g4
          obtain rfl : r = s 0 := by omega
          have hM2 := o2.hm hM
          refine pk_le (s 0) (s 0) (fun _ => ?_) (fun z => absurd z (by omega)) hM2.rooms
          unfold w_X12_sendNow_137 w_X12_nextSent
          rw [hM2.rooms]
          refine hn (vl co (s 0 - 1) 1 a 0 0, a) M1 e.symm (by show vl co (s 0 - 1) 1 a 0 0 ≤ 1000000; omega) o2 ⟨g1, g2, fun q hq => ?_, S4⟩
          show M1.1 16 q = if vl co (s 0 - 1) 1 a 0 0 < 1000000 ∧ 1 ≤ q ∧ q < s 0 then nI (a q) else -1
          by_cases w : 1 ≤ q ∧ q < s 0
          · rw [if_pos ⟨by omega, w.1, w.2⟩]
            exact g3 q hq w.1 w.2
          · rw [if_neg (fun y => w y.2)]
            exact g4 q hq (by omega)
        | succ m ih =>
          intro r M1 hr h1 o2 g1 g2 g3 g4
          refine pk_le (s 0) r (fun z => absurd z (by omega)) (fun _ => ⟨vp_i (by omega) (by decide), fun M14 e14 => ?_⟩) (o2.hm hM).rooms
          rw [cl_i (by omega), g2 r (by omega)] at e14
          rw [nI_1]
          refine ih (r + 1) M14 (by omega) (by omega) (fun q a1 a2 a3 a4 => by rw [cpo e14 a3, o2 q a1 a2 a3 a4]) (fun p q hp hq => by rw [cpo e14 (by decide)]; exact g1 p q hp hq) (fun q hq => by rw [cpo e14 (by decide)]; exact g2 q hq) (fun q hq q1 q2 => ?_) (fun q hq q1 => ?_)
          · rw [e14, wI_same]
            by_cases w : q = r
            · rw [w, pk_us]
            · rw [pk_un w]
              exact g3 q hq q1 (by omega)
          · rw [e14, wI_same, pk_un (by omega)]
            exact g4 q hq q1
      refine ⟨s 0, ?_⟩
      have g := cp (s 0 - 1) 1 M (by omega) (by omega) o1 S1 S2 (fun q _ q1 q2 => absurd q2 (by omega)) (fun q hq q1 => ?_)
      · rw [show s 0 - 1 + 1 = s 0 by omega] at g
        exact g
      · rw [S3 q hq, if_neg (by omega)]
  | succ k ih =>
    intro F a c M hk o1 hS ha hc hn
    have e : EN (s 2) (fun a => vl co (s 0 - 1) 1 a 0 0) (k + 1) (s 0 - (k + 1)) a c = fd (fun p c => EN (s 2) (fun a => vl co (s 0 - 1) 1 a 0 0) k (s 0 - (k + 1) + 1) (upN a (s 0 - (k + 1)) p) c) (s 2) 0 c := rfl
    have er : s 0 - (k + 1) + 1 = s 0 - k := by omega
    rw [er] at e
    generalize hr : s 0 - (k + 1) = r at e hn
    have r1 : 1 ≤ r := by omega
    have a0 : a r = 0 := ha r (by omega) (by omega)
    have P1 : 1 ≤ s 2 := by have := hS.2.2.2 0; omega
    have inn : ∀ m p (c1 : Sg) (M1 : Mm), p + (m + 1) = s 2 → oS M0 M1 → SM s co (upN a r p) c1 M1 → c1.1 ≤ 1000000 → (∀ (c2 : Sg) (M2 : Mm), c2 = fd (fun p c => EN (s 2) (fun a => vl co (s 0 - 1) 1 a 0 0) k (s 0 - k) (upN a r p) c) (m + 1) p c1 → c2.1 ≤ 1000000 → oS M0 M2 → SM s co a c2 M2 → ∃ n0, w_X12_nextSent_7 (fun r9 M10 => w_X12_sendNow_86 post F v1 (nI (fx c2.1)) r9 M10) n0 (nI r - 1) M2) → w_X12_sendNow_86 post (F + (m + 1) * (s 2) ^ k) v1 (nI (fx c1.1)) 1 M1 := by
      intro m
      induction m with
      | zero =>
        intro p c1 M1 hp o2 hS1 hc1 hn1
        rw [show F + (0 + 1) * (s 2) ^ k = F + (s 2) ^ k by omega]
        refine ih F (upN a r p) c1 M1 (by omega) o2 hS1 (fun q q1 q2 => by rw [upN_n (by omega)]; exact ha q (by omega) q2) hc1 (fun c2 M2 e2 hc2 o3 hS2 => ?_)
        have er2 : nI (s 0 - k) - 1 = nI r := by rw [show s 0 - k = r + 1 by omega, nI_pred]
        rw [er2]
        obtain ⟨T1, T2, T3, T4⟩ := hS2
        have fin : ∀ M8 : Mm, M8 = wI M2 15 (upd (M2.1 15) r (0 : Int32)) → ∃ n0, w_X12_nextSent_7 (fun r9 M10 => w_X12_sendNow_86 post F v1 (nI (fx c2.1)) r9 M10) n0 (nI r - 1) M8 := by
          intro M8 e8
          refine hn1 c2 M8 (by rw [e2]; rfl) hc2 (fun q a1 a2 a3 a4 => by rw [cpo e8 a2, o3 q a1 a2 a3 a4]) ⟨fun p q hp hq => by rw [cpo e8 (by decide)]; exact T1 p q hp hq, fun q hq => ?_, fun q hq => by rw [cpo e8 (by decide)]; exact T3 q hq, hS.2.2.2⟩
          rw [e8, wI_same]
          by_cases w : q = r
          · rw [w, pk_us, a0]
            rfl
          · rw [pk_un w, T2 q hq, upN_n w]
        obtain ⟨n0, hn0⟩ := fin _ rfl
        refine ⟨n0 + 1, ?_⟩
        refine pb_f (nI_nle (by omega) (by omega)) ⟨vp_i (by omega) (by decide), ?_⟩
        rw [cl_i (by omega), T2 r (by omega), upN_s, (o3.hm hM).people]
        refine pn_t (by rw [show s 2 = p + 1 by omega, nI_pred]) (fun M8 e8 => ?_)
        rw [ni_m, e8]
        exact hn0
      | succ m ihm =>
        intro p c1 M1 hp o2 hS1 hc1 hn1
        rw [show F + (m + 1 + 1) * (s 2) ^ k = (F + (m + 1) * (s 2) ^ k) + (s 2) ^ k by rw [Nat.succ_mul (m + 1)]; omega]
        refine ih (F + (m + 1) * (s 2) ^ k) (upN a r p) c1 M1 (by omega) o2 hS1 (fun q q1 q2 => by rw [upN_n (by omega)]; exact ha q (by omega) q2) hc1 (fun c2 M2 e2 hc2 o3 hS2 => ?_)
        have er2 : nI (s 0 - k) - 1 = nI r := by rw [show s 0 - k = r + 1 by omega, nI_pred]
        rw [er2]
        obtain ⟨T1, T2, T3, T4⟩ := hS2
        refine ⟨1, ?_⟩
        refine pb_f (nI_nle (by omega) (by omega)) ⟨vp_i (by omega) (by decide), ?_⟩
        rw [cl_i (by omega), T2 r (by omega), upN_s, (o3.hm hM).people]
        refine pn_f (fun q => ?_) ?_
        · rw [show s 2 = (s 2 - 1) + 1 by omega, nI_pred] at q
          have := (nI_eq (by omega) (by omega)).mp q
          omega
        · unfold w_X12_nextSent_39
          refine pn_f (nI_ne0 (by omega) (by omega)) ⟨vp_i (by omega) (by decide), fun M3 e3 => ?_⟩
          rw [cl_i (by omega), T2 r (by omega), upN_s, nI_1] at e3
          refine ihm (p + 1) c2 M3 (by omega) (fun q a1 a2 a3 a4 => by rw [cpo e3 a2, o3 q a1 a2 a3 a4]) ⟨fun p q hp hq => by rw [cpo e3 (by decide)]; exact T1 p q hp hq, fun q hq => ?_, fun q hq => by rw [cpo e3 (by decide)]; exact T3 q hq, fun q => ?_⟩ hc2 (fun c3 M4 e4 => hn1 c3 M4 (by rw [e4, e2]; rfl))
          · rw [e3, wI_same]
            by_cases w : q = r
            · rw [w, pk_us, upN_s]
            · rw [pk_un w, T2 q hq, upN_n w, upN_n w]
          · by_cases w : q = r
            · rw [w, upN_s]; omega
            · rw [upN_n w]; exact hS.2.2.2 q
    have g := inn (s 2 - 1) 0 c M (by omega) o1 ⟨hS.1, fun q hq => ?_, hS.2.2.1, fun q => ?_⟩ hc (fun c2 M2 e2 => hn c2 M2 (by rw [e2, e, show s 2 - 1 + 1 = s 2 by omega]))
    · rw [show s 2 - 1 + 1 = s 2 by omega] at g
      rw [Nat.pow_succ, Nat.mul_comm]
      exact g
    · by_cases w : q = r
      · rw [w, upN_s, hS.2.1 r (by omega), a0]
      · rw [upN_n w]; exact hS.2.1 q hq
    · by_cases w : q = r
      · rw [w, upN_s]; omega
      · rw [upN_n w]; exact hS.2.2.2 q
def sv0 (s : Nat → Nat) (f : Nat → Nat → Nat) : Int32 := if (sgF s f).1 < 1000000 then nI (sgF s f).1 else -1
def svj (s : Nat → Nat) (f : Nat → Nat → Nat) (j : Nat) : Int32 := if (sgF s f).1 < 1000000 ∧ 1 ≤ j ∧ j < s 0 then nI ((sgF s f).2 j) else -1
theorem sgF_le (s : Nat → Nat) (f : Nat → Nat → Nat) : (sgF s f).1 ≤ 1000000 := E1_le _ _ _ _ _ _ _ _
theorem sM_sendNow {M : Mm} {s : Nat → Nat} {f : Nat → Nat → Nat} {T : Nat} {post : Int32 → Mm → Prop} {v1 : Int32} (hM : HM M s f) (hV : Vt T s f) (h2 : 2 ≤ s 0) (hP : 1 ≤ s 2) (h : ∀ M1 : Mm, oS M M1 → (v1 = 0 ∧ post (sv0 s f) M1) ∨ (∃ j, 1 ≤ j ∧ j ≤ 4 ∧ v1 = nI (10 + j) ∧ post (svj s f j) M1)) : w_X12_sendNow v1 M post := by
  have hs := hV.1.2.2.1
  have hs0 := hV.1.1
  have hco := coS_or hV
  have fin : ∀ M1 : Mm, oS M M1 → SM s (coS s f) (fun _ => 0) (1000000, fun _ => 0) M1 → ∃ n0, w_X12_sendNow_86 post n0 v1 268435456 1 M1 := by
    intro M1 o1 hS1
    refine ⟨1 + (s 2) ^ (s 0 - 1), ?_⟩
    refine sM_odo hM hV hco h2 (s 0 - 1) 1 (fun _ => 0) (1000000, fun _ => 0) M1 (Nat.le_refl _) o1 hS1 (fun _ _ _ => rfl) (Nat.le_refl _) (fun c1 M2 e1 hc1 o2 hS2 => ?_)
    rw [show s 0 - (s 0 - 1) = 1 by omega] at e1 ⊢
    rw [EN_E1 (s 2) (coS s f) (fun a => vl (coS s f) (s 0 - 1) 1 a 0 0) (s 0 - 1) 1 (fun _ => 0) 0 0 (1000000, fun _ => 0) (Nat.le_refl _) (fun _ _ => rfl)] at e1
    have e2 : c1 = sgF s f := e1
    subst e2
    refine ⟨1, ?_⟩
    refine pb_t (by decide) ?_
    unfold w_X12_nextSent_39
    refine pn_t (by decide) (pb_0 ?_)
    rcases h M2 o2 with ⟨z, g⟩ | ⟨j, j1, j4, z, g⟩
    · rw [z]
      refine pb_t (by decide) ?_
      unfold sv0 at g
      by_cases c : (sgF s f).1 < 1000000
      · rw [if_pos c] at g
        rw [show fx (sgF s f).1 = (sgF s f).1 from if_pos c]
        exact re_ (sgF s f).1 268435456 (fun _ => g) (fun y => absurd y (by omega))
      · rw [if_neg c] at g
        rw [show fx (sgF s f).1 = 268435456 from if_neg c]
        exact pn_t rfl g
    · rw [z]
      refine pb_f (nI_nle (by omega) (by omega)) ?_
      have ej : nI (10 + j) - 10 = nI j := by
        rw [show (10 : Int32) = nI 10 from rfl, pk_sub (by omega)]
        exact congrArg nI (by omega)
      rw [ej]
      refine ⟨vp_i (by omega) (by decide), ?_⟩
      rw [cl_i (by omega), hS2.2.2.1 j (by omega)]
      exact g
  have L56 : ∀ m v (M1 : Mm), v + m = 5 → oS M M1 → cM s (coS s f) M1 → (∀ q, q < v → M1.1 15 q = 0 ∧ M1.1 16 q = -1) → w_X12_sendNow_56 post (m + 1) v1 (nI v) M1 := by
    intro m
    induction m with
    | zero =>
      intro v M1 hv o1 g1 g2
      obtain rfl : v = 5 := by omega
      refine pb_t (by decide) (fin M1 o1 ⟨g1, fun r hr => (g2 r hr).1, fun r hr => ?_, fun _ => (show 0 < s 2 by omega)⟩)
      rw [(g2 r hr).2, if_neg (fun q => absurd q.1 (by decide))]
    | succ m ih =>
      intro v M1 hv o1 g1 g2
      refine pk_le 5 v (fun z => absurd z (by omega)) (fun _ => ⟨vp_i (by omega) (by decide), fun M26 e26 M28 e28 => ?_⟩)
      rw [cl_i (by omega)] at e26 e28
      rw [nI_1]
      refine ih (v + 1) M28 (by omega) (fun q a1 a2 a3 a4 => by rw [cpo e28 a3, cpo e26 a2, o1 q a1 a2 a3 a4]) (fun p r hp hr => by rw [cpo e28 (by decide), cpo e26 (by decide)]; exact g1 p r hp hr) (fun q hq => ⟨?_, ?_⟩)
      · rw [cpo e28 (by decide), e26, wI_same]
        by_cases w : q = v
        · rw [w, pk_us]
        · rw [pk_un w]; exact (g2 q (by omega)).1
      · rw [e28, wI_same]
        by_cases w : q = v
        · rw [w, pk_us]
        · rw [pk_un w, cpo e26 (by decide)]; exact (g2 q (by omega)).2
  have L12 : ∀ (k2 : Int32 → Int32 → Mm → Prop) (p : Nat) (hp : p < s 2) (hk : ∀ M1 : Mm, oS M M1 → (∀ p' r, p' < p + 1 → r < s 0 → M1.1 17 (5 * p' + r) = if coS s f p' r < 1000000 then nI (coS s f p' r) else -1) → k2 v1 (nI p + 1) M1), ∀ m v (M1 : Mm), v + m = s 0 → oS M M1 → (∀ p' r, (p' < p ∧ r < s 0) ∨ (p' = p ∧ r < v) → M1.1 17 (5 * p' + r) = if coS s f p' r < 1000000 then nI (coS s f p' r) else -1) → w_X12_sendNow_12 post k2 (m + 1) v1 (nI p) (nI v) M1 := by
    intro k2 p hp hk m
    induction m with
    | zero =>
      intro v M1 hv o1 g1
      obtain rfl : v = s 0 := by omega
      exact pk_le (s 0) (s 0) (fun _ => hk M1 o1 (fun p' r hp' hr => g1 p' r (by omega))) (fun z => absurd z (by omega)) (o1.hm hM).rooms
    | succ m ih =>
      intro v M1 hv o1 g1
      have hM1 := o1.hm hM
      have vi := hV.2.2.2.1 p hp
      refine pk_le (s 0) v (fun z => absurd z (by omega)) (fun _ => ⟨vp_i (by omega) (by decide), ?_⟩) hM1.rooms
      rw [cl_i (show p < 2 ^ 31 by omega), hM1.place (by omega)]
      refine sM_from hM1 hV hp (by omega) vi.2.2.2.1 (fun M4 o4 h4 => ?_)
      have e5 : (5 : Int32) * nI p + nI v = nI (5 * p + v) := by rw [pi_5, pk_mul, nI_add]
      rw [e5]
      refine ⟨vp_i (by omega) (by decide), fun M7 e7 => ?_⟩
      rw [cl_i (by omega)] at e7
      rw [nI_1]
      refine ih (v + 1) M7 (by omega) (fun q a1 a2 a3 a4 => by rw [cpo e7 a4, o4.1 q a1, o1 q a1 a2 a3 a4]) (fun p' r hpr => ?_)
      rw [e7, wI_same]
      by_cases w : 5 * p' + r = 5 * p + v
      · rw [w, pk_us]
        obtain rfl : p' = p := by omega
        obtain rfl : r = v := by omega
        have ec : coS s f p' r = dL s f p' (f 6 p') r := if_pos ⟨hp, by omega⟩
        rw [ec]
        unfold fv
        have sy : dL s f p' r (f 6 p') = dL s f p' (f 6 p') r := dist_sym hs0 (by omega) vi.2.2.2.1 (ab_in hV) (tl_in hV hp)
        rw [sy]
      · rw [pk_un w, o4.1 17 (by decide)]
        exact g1 p' r (by omega)
  have L2 : ∀ m p (M1 : Mm), p + m = s 2 → oS M M1 → (∀ p' r, p' < p → r < s 0 → M1.1 17 (5 * p' + r) = if coS s f p' r < 1000000 then nI (coS s f p' r) else -1) → w_X12_sendNow_2 post (m + 1) v1 (nI p) M1 := by
    intro m
    induction m with
    | zero =>
      intro p M1 hp o1 g1
      obtain rfl : p = s 2 := by omega
      exact pk_le (s 2) (s 2) (fun _ => ⟨6, L56 5 0 M1 rfl o1 g1 (fun q hq => absurd hq (by omega))⟩) (fun z => absurd z (by omega)) (o1.hm hM).people
    | succ m ih =>
      intro p M1 hp o1 g1
      refine pk_le (s 2) p (fun z => absurd z (by omega)) (fun _ => ⟨s 0 + 1, ?_⟩) (o1.hm hM).people
      refine L12 _ p (by omega) (fun M2 o2 g2 => ?_) (s 0) 0 M1 (by omega) o1 (fun p' r hpr => g1 p' r (by omega) (by omega))
      rw [nI_1]
      exact ih (p + 1) M2 (by omega) o2 g2
  exact ⟨s 2 + 1, L2 (s 2) 0 M (by omega) (fun _ _ _ _ _ => rfl) (fun p' r hp' => absurd hp' (by omega))⟩
theorem sim_send (k : Nat) (MX MM : Mm) (x1 : Int32) (hk : k < 512) (hR : Rel k MX MM) : w_X11_send x1 MX (fun r MX1 => w_X12_send x1 MM (fun r1 MM1 => r = r1 ∧ Rel (k + 1) MX1 MM1)) := by
  have hR1 := hR.up
  obtain ⟨s, f, pn, pg, cr, cs, hX, hM, v, ⟨p1, p2, p3, p4⟩, ⟨c1, c2, c3, c4, c5, c6⟩, h6⟩ := hR
  have hs := v.1.2.2.1
  have hs0 := v.1.1
  -- what both do once the number asked for is one that is told
  have core : ∀ (Q : Int32 → Mm → Prop), (∀ r MX1, w_X12_send_18 (fun r1 MM1 => r = r1 ∧ Rel (k + 1) MX1 MM1) x1 MM → Q r MX1) → ((x1 = 0) ∨ (∃ j, 1 ≤ j ∧ j ≤ 4 ∧ x1 = nI (10 + j))) → w_X11_send_19 Q x1 MX := by
    intro Q hQ hx
    unfold w_X11_send_19
    refine sX_there hX.rooms hs0 (fun t => pb_1 ?_) (fun t => pb_0 ?_)
    · have hv : 2 ≤ s 0 ∧ 1 ≤ s 1 ∧ 1 ≤ s 2 := by
        rcases v.2.1 with y | y
        · omega
        · exact y
      refine pk_lt cs 30 (fun z M6 e6 => ?_) (fun z => ?_) c4
      · rw [c4, nI_1] at e6
        have x6 : ∀ n, n ≠ 0 → M6.1 n = MX.1 n := fun n hn => cpo e6 hn
        have x60 : ∀ j, j ≠ 8 → M6.1 0 j = MX.1 0 j := fun j hj => by rw [e6, wI_same, pk_un hj]
        have hX6 : HX 3 M6 s f := hX.cg (fun n a b => x6 n (by omega))
        refine sX_assign hX6 v hv.1 (fun M9 o9 g9 b9 => ?_)
        have hX9 := o9.hx hX6
        have fin : ∀ vv : Int32, (∀ M1 : Mm, ∀ post : Int32 → Mm → Prop, post vv M1 → (x1 = 0 ∧ post (sv0 s f) M1) ∨ (∃ j, 1 ≤ j ∧ j ≤ 4 ∧ x1 = nI (10 + j) ∧ post (svj s f j) M1)) → w_X12_send_18 (fun r1 MM1 => vv = r1 ∧ Rel (k + 1) M9 MM1) x1 MM := by
          intro vv hvv
          unfold w_X12_send_18
          refine pb_f ?_ ⟨fun y M3 e3 => ?_, fun y => ?_⟩
          · rw [hM.people]
            exact nI_ne0 (by omega) (by omega)
          · rw [c5, nI_1] at e3
            have y3 : ∀ n, n ≠ 0 → M3.1 n = MM.1 n := fun n hn => cpo e3 hn
            have y30 : ∀ j, j ≠ 13 → M3.1 0 j = MM.1 0 j := fun j hj => by rw [e3, wI_same, pk_un hj]
            have hM3 : HM M3 s f := hM.cg (fun j hj => y30 j (by omega)) (fun n a b => y3 n (by omega))
            refine sM_sendNow hM3 v hv.1 hv.2.2 (fun M7 o7 => hvv M7 (fun r1 MM1 => vv = r1 ∧ Rel (k + 1) M9 MM1) ⟨rfl, ?_⟩)
            have base : Rel (k + 1) M6 M3 := ⟨s, f, pn, pg, cr, cs + 1, hX6, hM3, v, ⟨by rw [x6 1 (by decide)]; exact p1, by rw [y30 19 (by decide)]; exact p2, p3, fun i hi => by rw [x6 2 (by decide), y3 13 (by decide)]; exact p4 i hi⟩, ⟨by rw [x60 7 (by decide)]; exact c1, by rw [y30 0 (by decide)]; exact c2, by omega, by rw [e6, wI_same, pk_us], by rw [e3, wI_same, pk_us], by omega⟩, h6.cg ⟨rfl, rfl, rfl⟩ (fun _ => ⟨rfl, rfl, rfl⟩) (x60 6 (by decide)) (fun n a b => x6 n (by omega)) (fun j hj => y30 j (by omega)) (fun n a b => y3 n (by omega))⟩
            exact base.fr (fun n hn => o9 n (by omega)) o7.co
          · rw [c5] at y
            have := (nI_eq (b := 30) (by omega) (by decide)).mp y
            omega
        have sl := sgF_le s f
        refine ⟨fun y => ?_, fun y => ?_⟩
        · rcases hx with hx | ⟨j, j1, j4, hx⟩
          · exact absurd hx y
          · have ej : x1 - 10 = nI j := by
              rw [hx, show (10 : Int32) = nI 10 from rfl, pk_sub (by omega)]
              exact congrArg nI (by omega)
            rw [ej]
            unfold w_X9_assignedTo
            have fin2 := fin (svj s f j) (fun M1 post hp => Or.inr ⟨j, j1, j4, hx, hp⟩)
            unfold svj at fin2
            refine pk_le 1000000 (sgF s f).1 (fun w => ?_) (fun w => ?_) rfl g9
            · rw [if_neg (by omega)] at fin2
              exact hQ _ _ fin2
            · refine sX_hasRoom hX9.rooms (by omega) (fun q => pb_1 ⟨vp_i (by omega) (by decide), ?_⟩) (fun q => pb_0 ?_)
              · obtain ⟨j', hj', e'⟩ := q
                have := (nI_eq (by omega) (by omega)).mp e'
                rw [cl_i (by omega), b9 (by omega) j j1 (by omega)]
                rw [if_pos ⟨by omega, j1, by omega⟩] at fin2
                exact hQ _ _ fin2
              · have : ¬ j < s 0 := fun q2 => q ⟨j, q2, rfl⟩
                rw [if_neg (by omega)] at fin2
                exact hQ _ _ fin2
        · unfold w_X9_assignedSteps
          have fin2 := fin (sv0 s f) (fun M1 post hp => Or.inl ⟨y, hp⟩)
          unfold sv0 at fin2
          refine pk_le 1000000 (sgF s f).1 (fun w => ?_) (fun w => ?_) rfl g9
          · rw [if_neg (by omega)] at fin2
            exact hQ _ _ fin2
          · rw [if_pos (by omega)] at fin2
            rw [g9]
            exact hQ _ _ fin2
      · refine hQ _ _ ?_
        unfold w_X12_send_18
        refine pb_f ?_ (pn_t ?_ ⟨rfl, hR1⟩)
        · rw [hM.people]
          exact nI_ne0 (by omega) (by omega)
        · rw [c5, show cs = 30 by omega]
          rfl
    · refine hQ _ _ ?_
      unfold w_X12_send_18
      refine pb_t ?_ ⟨rfl, hR1⟩
      rw [hM.people, show s 2 = 0 by rcases v.2.1 with y | y <;> omega]
      rfl
  unfold w_X11_send w_X12_send
  refine ⟨fun z => ?_, fun z => ⟨fun z1 => ?_, fun z1 => ⟨fun z2 => ?_, fun z2 => ?_⟩⟩⟩
  · exact core _ (fun r MX1 g => pb_t z g) (Or.inl z)
  · exact pb_f z (sM_within (fun q _ => absurd z1 q) (fun _ => pn_0 ⟨rfl, hR1⟩))
  · obtain ⟨c, cl, ch, hc⟩ := inR (lo := 11) (hi := 14) (by decide) z1 z2 (by decide)
    refine core _ (fun r MX1 g => pb_f z (sM_within (fun _ _ => pn_1 g) (fun q => ?_))) (Or.inr ⟨c - 10, by omega, by omega, by rw [hc]; exact congrArg nI (by omega)⟩)
    rcases q with q | q
    · exact absurd q z1
    · exact absurd q (le_nlt.mp z2)
  · exact pb_f z (sM_within (fun _ q => absurd (le_nlt.mpr q) z2) (fun _ => pn_0 ⟨rfl, hR1⟩))
