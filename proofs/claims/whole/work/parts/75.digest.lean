/-! ===== digest ===== -/
def pvF (s : Nat → Nat) (f : Nat → Nat → Nat) (i c : Nat) : Int32 := if c = 0 then nI (f 3 i) else if c = 1 then nI (f 4 i) else if c = 2 then nI (f 5 i) else if c = 3 then nI (f 6 i) else if c = 4 then nI (f 7 i) else if c = 5 then plB s f i else (if plB s f i = 0 then -1 else (bqP s f (plB s f i) i (s 1) 0 (-1, 11)).1)
theorem sX_tell {i c : Nat} {M : Mm} {s : Nat → Nat} {f : Nat → Nat → Nat} {T : Nat} {post : Int32 → Mm → Prop} (hX : HX 3 M s f) (hV : Vt T s f) (hi : i < s 2) (hc : c ≤ 6) (h : post (pvF s f i c) M) : w_X11_tellPerson (nI i) (nI c) M post := by
  have hs := hV.1.2.2.1
  unfold w_X11_tellPerson
  rw [cl_i (show i < 2 ^ 31 by omega)]
  rcases (show c = 0 ∨ c = 1 ∨ c = 2 ∨ c = 3 ∨ c = 4 ∨ c = 5 ∨ c = 6 by omega) with rfl | rfl | rfl | rfl | rfl | rfl | rfl
  · exact pb_t (by decide) (show _ ∧ _ from ⟨vp_i (by omega) (by decide), (H3_kind hX (show i < 5 by omega)).symm ▸ h⟩)
  · exact pb_f (by decide) (pb_t (by decide) (show _ ∧ _ from ⟨vp_i (by omega) (by decide), (H3_deed hX (show i < 5 by omega)).symm ▸ h⟩))
  · exact pb_f (by decide) (pb_f (by decide) (pb_t (by decide) (show _ ∧ _ from ⟨vp_i (by omega) (by decide), (H3_lie hX (show i < 5 by omega)).symm ▸ h⟩)))
  · exact pb_f (by decide) (pb_f (by decide) (pb_f (by decide) (pb_t (by decide) (show _ ∧ _ from ⟨vp_i (by omega) (by decide), (H3_place hX (show i < 5 by omega)).symm ▸ h⟩))))
  · exact pb_f (by decide) (pb_f (by decide) (pb_f (by decide) (pb_f (by decide) (pb_t (by decide) (show _ ∧ _ from ⟨vp_i (by omega) (by decide), (H3_took hX (show i < 5 by omega)).symm ▸ h⟩)))))
  · exact pb_f (by decide) (pb_f (by decide) (pb_f (by decide) (pb_f (by decide) (pb_f (by decide) (pb_t (by decide) (sX_lies hX hV hi h))))))
  · exact pb_f (by decide) (pb_f (by decide) (pb_f (by decide) (pb_f (by decide) (pb_f (by decide) (pb_f (by decide) (pb_t (by decide) (sX_lies hX hV hi (sX_bq hX hV hi h))))))))
theorem sM_tell {i c : Nat} {M : Mm} {s : Nat → Nat} {f : Nat → Nat → Nat} {T : Nat} {post : Int32 → Mm → Prop} (hM : HM M s f) (hV : Vt T s f) (hi : i < s 2) (hc : c ≤ 6) (h : post (pvF s f i c) M) : w_X12_personNow (nI i) (nI c) M post := by
  have hs := hV.1.2.2.1
  unfold w_X12_personNow
  rw [cl_i (show i < 2 ^ 31 by omega)]
  rcases (show c = 0 ∨ c = 1 ∨ c = 2 ∨ c = 3 ∨ c = 4 ∨ c = 5 ∨ c = 6 by omega) with rfl | rfl | rfl | rfl | rfl | rfl | rfl
  · exact pb_t (by decide) (show _ ∧ _ from ⟨vp_i (by omega) (by decide), (hM.kind (show i < 5 by omega)).symm ▸ h⟩)
  · exact pb_f (by decide) (pb_t (by decide) (show _ ∧ _ from ⟨vp_i (by omega) (by decide), (hM.deed (show i < 5 by omega)).symm ▸ h⟩))
  · exact pb_f (by decide) (pb_f (by decide) (pb_t (by decide) (show _ ∧ _ from ⟨vp_i (by omega) (by decide), (hM.lie (show i < 5 by omega)).symm ▸ h⟩)))
  · exact pb_f (by decide) (pb_f (by decide) (pb_f (by decide) (pb_t (by decide) (show _ ∧ _ from ⟨vp_i (by omega) (by decide), (hM.place (show i < 5 by omega)).symm ▸ h⟩))))
  · exact pb_f (by decide) (pb_f (by decide) (pb_f (by decide) (pb_f (by decide) (pb_t (by decide) (show _ ∧ _ from ⟨vp_i (by omega) (by decide), (hM.took (show i < 5 by omega)).symm ▸ h⟩)))))
  · exact pb_f (by decide) (pb_f (by decide) (pb_f (by decide) (pb_f (by decide) (pb_f (by decide) (pb_t (by decide) (sM_lies hM hV hi h))))))
  · exact pb_f (by decide) (pb_f (by decide) (pb_f (by decide) (pb_f (by decide) (pb_f (by decide) (pb_f (by decide) (sM_bq hM hV hi h))))))
def cvF (s : Nat → Nat) (f : Nat → Nat → Nat) (pn cr cs c : Nat) : Int32 := if c = 0 then nI (s 0) else if c = 1 then nI (s 1) else if c = 2 then nI (s 2) else if c = 3 then nI (sumF (f 4) 0 (s 2)) else if c = 4 then nI (sumF (f 5) 0 (s 2)) else if c = 5 then nI (sumF (f 7) 0 (s 2)) else if c = 6 then nI (s 3) else if c = 7 then nI (sumF (is0 (f 6)) 0 (s 2)) else if c = 8 then nI (s 4) else if c = 9 then nI pn else if c = 10 then nI cr else nI cs
theorem sX_cnt {c pn cr cs : Nat} {M : Mm} {s : Nat → Nat} {f : Nat → Nat → Nat} {T : Nat} {post : Int32 → Mm → Prop} (hX : HX 3 M s f) (hV : Vt T s f) (p1 : M.1 1 1 = nI pn) (c1 : M.1 0 7 = nI cr) (c4 : M.1 0 8 = nI cs) (hc : c ≤ 11) (h : post (cvF s f pn cr cs c) M) : w_X11_count (nI c) M post := by
  have h5 := hV.1.2.2.1
  have hz : ∀ i, i < s 2 → f 6 i < 100 := fun i hi => by have := hV.2.2.2.1 i hi; have := hV.1.1; omega
  unfold w_X11_count
  rcases (show c = 0 ∨ c = 1 ∨ c = 2 ∨ c = 3 ∨ c = 4 ∨ c = 5 ∨ c = 6 ∨ c = 7 ∨ c = 8 ∨ c = 9 ∨ c = 10 ∨ c = 11 by omega) with rfl | rfl | rfl | rfl | rfl | rfl | rfl | rfl | rfl | rfl | rfl | rfl
  · exact pb_t (by decide) (((H3_rooms hX)).symm ▸ h)
  · exact pb_f (by decide) (pb_t (by decide) (((H3_passages hX)).symm ▸ h))
  · exact pb_f (by decide) (pb_f (by decide) (pb_t (by decide) (((H3_people hX)).symm ▸ h)))
  · exact pb_f (by decide) (pb_f (by decide) (pb_f (by decide) (pb_t (by decide) (sX_sum (H3_people hX) h5 (g := f 4) (fun i hi => H3_deed hX (by omega)) h))))
  · exact pb_f (by decide) (pb_f (by decide) (pb_f (by decide) (pb_f (by decide) (pb_t (by decide) (sX_sum (H3_people hX) h5 (g := f 5) (fun i hi => H3_lie hX (by omega)) h)))))
  · exact pb_f (by decide) (pb_f (by decide) (pb_f (by decide) (pb_f (by decide) (pb_f (by decide) (pb_t (by decide) (sX_sum (H3_people hX) h5 (g := f 7) (fun i hi => H3_took hX (by omega)) h))))))
  · exact pb_f (by decide) (pb_f (by decide) (pb_f (by decide) (pb_f (by decide) (pb_f (by decide) (pb_f (by decide) (pb_t (by decide) (((H3_together hX)).symm ▸ h)))))))
  · exact pb_f (by decide) (pb_f (by decide) (pb_f (by decide) (pb_f (by decide) (pb_f (by decide) (pb_f (by decide) (pb_f (by decide) (pb_t (by decide) (sX_zero (H3_people hX) h5 (g := f 6) (fun i hi => ⟨H3_place hX (by omega), hz i hi⟩) h))))))))
  · exact pb_f (by decide) (pb_f (by decide) (pb_f (by decide) (pb_f (by decide) (pb_f (by decide) (pb_f (by decide) (pb_f (by decide) (pb_f (by decide) (pb_t (by decide) (((H3_seen hX)).symm ▸ h)))))))))
  · exact pb_f (by decide) (pb_f (by decide) (pb_f (by decide) (pb_f (by decide) (pb_f (by decide) (pb_f (by decide) (pb_f (by decide) (pb_f (by decide) (pb_f (by decide) (pb_t (by decide) ((p1).symm ▸ h))))))))))
  · exact pb_f (by decide) (pb_f (by decide) (pb_f (by decide) (pb_f (by decide) (pb_f (by decide) (pb_f (by decide) (pb_f (by decide) (pb_f (by decide) (pb_f (by decide) (pb_f (by decide) (pb_t (by decide) ((c1).symm ▸ h)))))))))))
  · exact pb_f (by decide) (pb_f (by decide) (pb_f (by decide) (pb_f (by decide) (pb_f (by decide) (pb_f (by decide) (pb_f (by decide) (pb_f (by decide) (pb_f (by decide) (pb_f (by decide) (pb_f (by decide) (pb_t (by decide) ((c4).symm ▸ h))))))))))))
theorem sM_cnt {c pn cr cs : Nat} {M : Mm} {s : Nat → Nat} {f : Nat → Nat → Nat} {T : Nat} {post : Int32 → Mm → Prop} (hM : HM M s f) (hV : Vt T s f) (p1 : M.1 0 19 = nI pn) (c1 : M.1 0 0 = nI cr) (c4 : M.1 0 13 = nI cs) (hc : c ≤ 11) (h : post (cvF s f pn cr cs c) M) : w_X12_howMany (nI c) M post := by
  have h5 := hV.1.2.2.1
  have hz : ∀ i, i < s 2 → f 6 i < 100 := fun i hi => by have := hV.2.2.2.1 i hi; have := hV.1.1; omega
  unfold w_X12_howMany
  rcases (show c = 0 ∨ c = 1 ∨ c = 2 ∨ c = 3 ∨ c = 4 ∨ c = 5 ∨ c = 6 ∨ c = 7 ∨ c = 8 ∨ c = 9 ∨ c = 10 ∨ c = 11 by omega) with rfl | rfl | rfl | rfl | rfl | rfl | rfl | rfl | rfl | rfl | rfl | rfl
  · exact pb_t (by decide) ((hM.rooms).symm ▸ h)
  · exact pb_f (by decide) (pb_t (by decide) ((hM.passages).symm ▸ h))
  · exact pb_f (by decide) (pb_f (by decide) (pb_t (by decide) ((hM.people).symm ▸ h)))
  · exact pb_f (by decide) (pb_f (by decide) (pb_f (by decide) (pb_t (by decide) (sM_sum1 hM.people h5 (g := f 4) (fun i hi => hM.deed (by omega)) h))))
  · exact pb_f (by decide) (pb_f (by decide) (pb_f (by decide) (pb_f (by decide) (pb_t (by decide) (sM_sum0 hM.people h5 (g := f 5) (fun i hi => hM.lie (by omega)) h)))))
  · exact pb_f (by decide) (pb_f (by decide) (pb_f (by decide) (pb_f (by decide) (pb_f (by decide) (pb_t (by decide) (sM_tookAll hM.people h5 (g := f 7) (fun i hi => hM.took (by omega)) h))))))
  · exact pb_f (by decide) (pb_f (by decide) (pb_f (by decide) (pb_f (by decide) (pb_f (by decide) (pb_f (by decide) (pb_t (by decide) ((hM.together).symm ▸ h)))))))
  · exact pb_f (by decide) (pb_f (by decide) (pb_f (by decide) (pb_f (by decide) (pb_f (by decide) (pb_f (by decide) (pb_f (by decide) (pb_t (by decide) (sM_zero hM.people h5 (g := f 6) (fun i hi => ⟨hM.place (by omega), hz i hi⟩) h))))))))
  · exact pb_f (by decide) (pb_f (by decide) (pb_f (by decide) (pb_f (by decide) (pb_f (by decide) (pb_f (by decide) (pb_f (by decide) (pb_f (by decide) (pb_t (by decide) ((hM.seen).symm ▸ h)))))))))
  · exact pb_f (by decide) (pb_f (by decide) (pb_f (by decide) (pb_f (by decide) (pb_f (by decide) (pb_f (by decide) (pb_f (by decide) (pb_f (by decide) (pb_f (by decide) (pb_t (by decide) ((p1).symm ▸ h))))))))))
  · exact pb_f (by decide) (pb_f (by decide) (pb_f (by decide) (pb_f (by decide) (pb_f (by decide) (pb_f (by decide) (pb_f (by decide) (pb_f (by decide) (pb_f (by decide) (pb_f (by decide) (pb_t (by decide) ((c1).symm ▸ h)))))))))))
  · exact pb_f (by decide) (pb_f (by decide) (pb_f (by decide) (pb_f (by decide) (pb_f (by decide) (pb_f (by decide) (pb_f (by decide) (pb_f (by decide) (pb_f (by decide) (pb_f (by decide) (pb_f (by decide) (pb_t (by decide) ((c4).symm ▸ h))))))))))))
def fl (g : Nat → Int64) : Nat → Nat → Int64 → Int64
  | 0, _, h => h
  | m + 1, v, h => fl g m (v + 1) (31 * h + g v)
def fl2 (g1 g2 : Nat → Int64) : Nat → Nat → Int64 → Int64
  | 0, _, h => h
  | m + 1, v, h => fl2 g1 g2 m (v + 1) (31 * (31 * h + g1 v) + g2 v)
def itr (g : Nat → Int64 → Int64) : Nat → Nat → Int64 → Int64
  | 0, _, h => h
  | m + 1, v, h => itr g m (v + 1) (g v h)
def hPer (s : Nat → Nat) (f : Nat → Nat → Nat) (i : Nat) (h : Int64) : Int64 := fl2 (fun to => (fv s f i to (f 6 i)).toInt64) (fun to => (pth s f (tl f i) (dL s f i to) 0 (f 6 i)).toInt64) (s 0) 0 (fl (fun c => (pvF s f i c).toInt64) 7 0 h)
def hPas (s : Nat → Nat) (f : Nat → Nat → Nat) (p : Nat) (h : Int64) : Int64 := fl (fun j => (pvj s f p j).toInt64) 5 0 (31 * (fl (fun c => (nI (f c p)).toInt64) 3 0 h) + (nI (pgF s f p).1).toInt64)
def mQ (s : Nat → Nat) (f : Nat → Nat → Nat) : Int64 := lN (mA s f 2 0 1 / Nat.gcd (mB 2) (mA s f 2 0 1))
def mR (s : Nat → Nat) (f : Nat → Nat → Nat) : Int64 := lN (mB 2 / Nat.gcd (mB 2) (mA s f 2 0 1))
def hMe (s : Nat → Nat) (f : Nat → Nat → Nat) (h : Int64) : Int64 := if s 2 < 2 then h else 31 * (31 * h + mQ s f) + mR s f
def dig (s : Nat → Nat) (f : Nat → Nat → Nat) (pn : Nat) (pg : Nat → Nat) (cr cs : Nat) : Int64 := fl (fun c => (cvF s f pn cr cs c).toInt64) 12 0 (fl (fun k => (nI (pg k)).toInt64) pn 0 (hMe s f (itr (hPas s f) (s 1) 0 (itr (hPer s f) (s 2) 0 1193))))
/-! the class -/
theorem oq.ow {M M1 : Mm} (h : oq M M1) : oW M M1 := fun n hn => h n (by omega) (by omega)
theorem sX_digest {s : Nat → Nat} {f : Nat → Nat → Nat} {T pn cr cs : Nat} {pg : Nat → Nat} {M : Mm} {post : Int64 → Mm → Prop} (hX : HX 3 M s f) (hV : Vt T s f) (hP : XP pn pg M) (c1 : M.1 0 7 = nI cr) (c4 : M.1 0 8 = nI cs) (h : ∀ M1 : Mm, oW M M1 → post (dig s f pn pg cr cs) M1) : w_X11_digest M post := by
  have hs := hV.1.2.2.1
  have hs0 := hV.1.1
  have hs1 := hV.1.2.1
  have h52 := hP.2.1
  have L167 : ∀ m c (x : Int64) (M1 : Mm), c + m = 12 → oW M M1 → fl (fun c => (cvF s f pn cr cs c).toInt64) m c x = dig s f pn pg cr cs → w_X11_digest_167 post (m + 1) x (nI c) M1 := by
    intro m
    induction m with
    | zero =>
      intro c x M1 hc o1 e
      have e' : x = dig s f pn pg cr cs := e
      exact pk_lt 11 c (fun _ => by rw [e']; exact h M1 o1) (fun z => absurd z (by omega))
    | succ m ih =>
      intro c x M1 hc o1 e
      refine pk_lt 11 c (fun z => absurd z (by omega)) (fun _ => ?_)
      refine sX_cnt (o1.hx hX) hV (pn := pn) (cr := cr) (cs := cs) (by rw [o1 1 (by decide)]; exact hP.1) (by rw [o1 0 (by decide)]; exact c1) (by rw [o1 0 (by decide)]; exact c4) (by omega) ?_
      unfold w_X11_mix
      rw [nI_1]
      exact ih (c + 1) _ M1 (by omega) o1 e
  have L134 : ∀ m k (x : Int64) (M1 : Mm), k + m = pn → oW M M1 → fl (fun c => (cvF s f pn cr cs c).toInt64) 12 0 (fl (fun k => (nI (pg k)).toInt64) m k x) = dig s f pn pg cr cs → w_X11_digest_134 post (m + 1) x (nI k) M1 := by
    intro m
    induction m with
    | zero =>
      intro k x M1 hk o1 e
      have e' : fl (fun c => (cvF s f pn cr cs c).toInt64) 12 0 x = dig s f pn pg cr cs := e
      exact pk_le pn k (fun _ => ⟨13, L167 12 0 x M1 rfl o1 e'⟩) (fun z => absurd z (by omega)) (by rw [o1 1 (by decide)]; exact hP.1)
    | succ m ih =>
      intro k x M1 hk o1 e
      have p1 : XP pn pg M1 := hP.cg (o1 1 (by decide)) (o1 2 (by decide))
      refine pk_le pn k (fun z => absurd z (by omega)) (fun z => p1.code (by omega) ?_) p1.1
      have ec : cd pn pg k = pg k := if_pos z
      rw [ec]
      unfold w_X11_mix
      rw [nI_1]
      exact ih (k + 1) _ M1 (by omega) o1 e
  have LP : ∀ (p : Nat) (hp : p < s 1) (x : Int64) (M1 : Mm) (po : Int64 → Mm → Prop), oW M M1 → (∀ M2 : Mm, oW M M2 → po (hPas s f p x) M2) → w_X11_mixPassage x (nI p) M1 po := by
    intro p hp x M1 po o1 g
    have L63 : ∀ m j (y : Int64) (M2 : Mm), j + m = 5 → oW M M2 → (∀ q, q < s 2 → M2.1 79 q = nI ((pgF s f p).2.2 q) - 1) → fl (fun j => (pvj s f p j).toInt64) m j y = hPas s f p x → w_X11_mixPassage_63 po (m + 1) y (nI j) M2 := by
      intro m
      induction m with
      | zero =>
        intro j y M2 hj o2 g9 e
        have e' : y = hPas s f p x := e
        exact pk_le 5 j (fun _ => by rw [e']; exact g M2 o2) (fun z => absurd z (by omega))
      | succ m ih =>
        intro j y M2 hj o2 g9 e
        refine pk_le 5 j (fun z => absurd z (by omega)) (fun _ => sX_partner (o2.hx hX) hV (by omega) g9 ?_)
        unfold w_X11_mix
        rw [nI_1]
        exact ih (j + 1) _ M2 (by omega) o2 g9 e
    have L6 : ∀ m c (y : Int64) (M2 : Mm), c + m = 3 → oW M M2 → fl (fun c => (nI (f c p)).toInt64) m c y = fl (fun c => (nI (f c p)).toInt64) 3 0 x → w_X11_mixPassage_6 po (m + 1) (nI p) y (nI c) M2 := by
      intro m
      induction m with
      | zero =>
        intro c y M2 hc o2 e
        have e' : y = fl (fun c => (nI (f c p)).toInt64) 3 0 x := e
        refine pk_lt 2 c (fun _ => sX_arrange (o2.hx hX) hV hp (fun M10 o10 g4 g9 => ?_)) (fun z => absurd z (by omega))
        unfold w_X11_mix
        refine ⟨6, L63 5 0 _ M10 rfl (o2.tr o10) g9 ?_⟩
        rw [g4, e']
        rfl
      | succ m ih =>
        intro c y M2 hc o2 e
        have X2 := o2.hx hX
        refine pk_lt 2 c (fun z => absurd z (by omega)) (fun _ => ?_)
        have tellv : ∀ v : Int32, v = nI (f c p) → w_X11_mix y v.toInt64 M2 (fun r18 M19 => w_X11_mixPassage_6 po (m + 1) (nI p) r18 (nI c + 1) M19) := by
          intro v hv
          unfold w_X11_mix
          rw [hv, nI_1]
          exact ih (c + 1) _ M2 (by omega) o2 e
        unfold w_X11_tellPassage
        rw [cl_i (show p < 2 ^ 31 by omega)]
        rcases (show c = 0 ∨ c = 1 ∨ c = 2 by omega) with rfl | rfl | rfl
        · exact pb_t (by decide) ⟨vp_i (by omega) (by decide), tellv _ (H3_one X2 (by omega))⟩
        · exact pb_f (by decide) (pb_t (by decide) ⟨vp_i (by omega) (by decide), tellv _ (H3_other X2 (by omega))⟩)
        · exact pb_f (by decide) (pb_f (by decide) (pb_t (by decide) ⟨vp_i (by omega) (by decide), tellv _ (H3_len X2 (by omega))⟩))
    exact ⟨4, L6 3 0 x M1 rfl o1 rfl⟩
  have L61 : ∀ m p (x : Int64) (M1 : Mm), p + m = s 1 → oW M M1 → fl (fun c => (cvF s f pn cr cs c).toInt64) 12 0 (fl (fun k => (nI (pg k)).toInt64) pn 0 (hMe s f (itr (hPas s f) m p x))) = dig s f pn pg cr cs → w_X11_digest_61 post (m + 1) x (nI p) M1 := by
    intro m
    induction m with
    | zero =>
      intro p x M1 hp o1 e
      have X1 := o1.hx hX
      have e' : fl (fun c => (cvF s f pn cr cs c).toInt64) 12 0 (fl (fun k => (nI (pg k)).toInt64) pn 0 (hMe s f x)) = dig s f pn pg cr cs := e
      unfold hMe at e'
      refine pk_le (s 1) p (fun _ => pk_lt (s 2) 2 (fun z => ⟨pn + 1, ?_⟩) (fun z => ?_) (H3_people X1)) (fun z => absurd z (by omega)) (H3_passages X1)
      · rw [if_pos z] at e'
        exact L134 pn 0 x M1 (by omega) o1 e'
      · rw [if_neg (by omega)] at e'
        have g := sX_compare (i := 0) (j := 1) (t := 2) X1 hV (by omega) (by omega) (by omega) (post := fun M28 => w_X11_mix x (M28.2 80 4) M28 (fun r30 M31 => w_X11_mix r30 (M31.2 80 5) M31 (fun r33 M34 => ∃ n0 : Nat, w_X11_digest_134 post n0 r33 (0 : Int32) M34))) (fun M28 f28 g4 g5 => ?_)
        · exact g
        · unfold w_X11_mix
          dsimp only
          rw [g4, g5]
          exact ⟨pn + 1, L134 pn 0 _ M28 (by omega) (fun n hn => by rw [f28, o1 n hn]) e'⟩
    | succ m ih =>
      intro p x M1 hp o1 e
      refine pk_le (s 1) p (fun z => absurd z (by omega)) (fun _ => LP p (by omega) x M1 _ o1 (fun M2 o2 => ?_)) (H3_passages (o1.hx hX))
      rw [nI_1]
      exact ih (p + 1) _ M2 (by omega) o2 e
  have LW : ∀ (i : Nat) (hi : i < s 2) (x : Int64) (M1 : Mm) (po : Int64 → Mm → Prop), oW M M1 → (∀ M2 : Mm, oW M M2 → po (fl2 (fun to => (fv s f i to (f 6 i)).toInt64) (fun to => (pth s f (tl f i) (dL s f i to) 0 (f 6 i)).toInt64) (s 0) 0 x) M2) → w_X11_mixWays x (nI i) M1 po := by
    intro i hi x M1 po o1 g
    have vi := hV.2.2.2.1 i hi
    unfold w_X11_mixWays
    rw [cl_i (by omega), H3_place (o1.hx hX) (by omega)]
    have L17 : ∀ m to (y : Int64) (M2 : Mm), to + m = s 0 → oW M M2 → fl2 (fun to => (fv s f i to (f 6 i)).toInt64) (fun to => (pth s f (tl f i) (dL s f i to) 0 (f 6 i)).toInt64) m to y = fl2 (fun to => (fv s f i to (f 6 i)).toInt64) (fun to => (pth s f (tl f i) (dL s f i to) 0 (f 6 i)).toInt64) (s 0) 0 x → w_X11_mixWays_17 po (m + 1) (nI i) y (nI (f 6 i)) (nI to) M2 := by
      intro m
      induction m with
      | zero =>
        intro to y M2 ht o2 e
        have e' : y = _ := e
        exact pk_le (s 0) to (fun _ => by rw [e']; exact g M2 o2) (fun z => absurd z (by omega)) (H3_rooms (o2.hx hX))
      | succ m ih =>
        intro to y M2 ht o2 e
        have X2 := o2.hx hX
        refine pk_le (s 0) to (fun z => absurd z (by omega)) (fun _ => sX_measure X2 hV hi (by omega) (fun M3 o3 k1 k2 => sX_from hV hi (by omega) vi.2.2.2.1 k2 ?_)) (H3_rooms X2)
        unfold w_X11_mix
        refine sX_leg (N := 0) (o3.hx X2) hV hi (by omega) vi.2.2.2.1 (by omega) k1 k2 ?_
        rw [nI_1]
        exact ih (to + 1) _ M3 (by omega) (o2.tr o3.ow) e
    exact ⟨vp_i (by omega) (by decide), s 0 + 1, L17 (s 0) 0 x M1 (by omega) o1 rfl⟩
  have L6 : ∀ m i (x : Int64) (M1 : Mm), i + m = s 2 → oW M M1 → fl (fun c => (cvF s f pn cr cs c).toInt64) 12 0 (fl (fun k => (nI (pg k)).toInt64) pn 0 (hMe s f (itr (hPas s f) (s 1) 0 (itr (hPer s f) m i x)))) = dig s f pn pg cr cs → w_X11_digest_6 post (m + 1) x (nI i) M1 := by
    intro m
    induction m with
    | zero =>
      intro i x M1 hi o1 e
      exact pk_le (s 2) i (fun _ => ⟨s 1 + 1, L61 (s 1) 0 x M1 (by omega) o1 e⟩) (fun z => absurd z (by omega)) (H3_people (o1.hx hX))
    | succ m ih =>
      intro i x M1 hi o1 e
      refine pk_le (s 2) i (fun z => absurd z (by omega)) (fun _ => ⟨8, ?_⟩) (H3_people (o1.hx hX))
      have L20 : ∀ n c (y : Int64), c + n = 7 → fl (fun c => (pvF s f i c).toInt64) n c y = fl (fun c => (pvF s f i c).toInt64) 7 0 x → w_X11_digest_20 post (w_X11_digest_6 post (m + 1)) (n + 1) y (nI i) (nI c) M1 := by
        intro n
        induction n with
        | zero =>
          intro c y hc e2
          have e2' : y = fl (fun c => (pvF s f i c).toInt64) 7 0 x := e2
          refine pk_lt 6 c (fun _ => LW i (by omega) y M1 _ o1 (fun M2 o2 => ?_)) (fun z => absurd z (by omega))
          rw [nI_1, e2']
          exact ih (i + 1) _ M2 (by omega) o2 e
        | succ n ihn =>
          intro c y hc e2
          refine pk_lt 6 c (fun z => absurd z (by omega)) (fun _ => sX_tell (o1.hx hX) hV (by omega) (by omega) ?_)
          unfold w_X11_mix
          rw [nI_1]
          exact ihn (c + 1) _ (by omega) e2
      exact L20 7 0 x rfl rfl
  exact ⟨s 2 + 1, L6 (s 2) 0 1193 M (by omega) (fun _ _ => rfl) rfl⟩
/-! the reference -/
def GM (M0 : Mm) (h : Int64) (M : Mm) : Prop := (∀ n, n < 14 ∨ 20 ≤ n → M.1 n = M0.1 n) ∧ M.2 0 48 = h
theorem GM.hm {M0 M : Mm} {h : Int64} {s : Nat → Nat} {f : Nat → Nat → Nat} (g : GM M0 h M) (hM : HM M0 s f) : HM M s f := hM.cg (fun k _ => by rw [g.1 0 (by omega)]) (fun n a b => g.1 n (by omega))
theorem sM_mix {M0 M : Mm} {h x : Int64} {post : Mm → Prop} (g : GM M0 h M) (k : ∀ M1 : Mm, GM M0 (31 * h + x) M1 → post M1) : w_X12_mix x M post := by
  unfold w_X12_mix
  intro M1 e1
  refine k M1 ⟨fun n hn => by rw [e1]; exact g.1 n hn, ?_⟩
  rw [e1, wJ_same, pk_uLs, g.2]
theorem GM.o14 {M0 M M1 : Mm} {h : Int64} (g : GM M0 h M) (o : o14 M M1) : GM M0 h M1 := ⟨fun n hn => by rw [o.1 n (by omega)]; exact g.1 n hn, by rw [o.2]; exact g.2⟩
theorem GM.oP {M0 M M1 : Mm} {h : Int64} (g : GM M0 h M) (o : oP M M1) : GM M0 h M1 := ⟨fun n hn => by rw [o.1 n (by omega) (by omega)]; exact g.1 n hn, by rw [o.2]; exact g.2⟩
theorem GM.eJ {M0 M M1 : Mm} {h : Int64} (g : GM M0 h M) (o : eqJ M M1) : GM M0 h M1 := ⟨fun n hn => by rw [o.1]; exact g.1 n hn, by rw [o.2]; exact g.2⟩
theorem sM_digest {s : Nat → Nat} {f : Nat → Nat → Nat} {T pn cr cs : Nat} {pg : Nat → Nat} {M : Mm} {post : Int64 → Mm → Prop} (hM : HM M s f) (hV : Vt T s f) (hP : MP pn pg M) (c1 : M.1 0 0 = nI cr) (c4 : M.1 0 13 = nI cs) (h : ∀ M1 : Mm, (∀ n, n < 14 ∨ 20 ≤ n → M1.1 n = M.1 n) → post (dig s f pn pg cr cs) M1) : w_X12_digest M post := by
  have hs := hV.1.2.2.1
  have hs0 := hV.1.1
  have hs1 := hV.1.2.1
  have h52 := hP.2.1
  have L175 : ∀ m c (x : Int64) (M1 : Mm), c + m = 12 → GM M x M1 → fl (fun c => (cvF s f pn cr cs c).toInt64) m c x = dig s f pn pg cr cs → w_X12_digest_175 post (m + 1) (nI c) M1 := by
    intro m
    induction m with
    | zero =>
      intro c x M1 hc o1 e
      have e' : x = dig s f pn pg cr cs := e
      exact pk_le 12 c (fun _ => by rw [o1.2, e']; exact h M1 o1.1) (fun z => absurd z (by omega))
    | succ m ih =>
      intro c x M1 hc o1 e
      refine pk_le 12 c (fun z => absurd z (by omega)) (fun _ => ?_)
      refine sM_cnt (o1.hm hM) hV (pn := pn) (cr := cr) (cs := cs) (by rw [o1.1 0 (by omega)]; exact hP.1) (by rw [o1.1 0 (by omega)]; exact c1) (by rw [o1.1 0 (by omega)]; exact c4) (by omega) (sM_mix o1 (fun M2 o2 => ?_))
      rw [nI_1]
      exact ih (c + 1) _ M2 (by omega) o2 e
  have L148 : ∀ m k (x : Int64) (M1 : Mm), k + m = pn → GM M x M1 → fl (fun c => (cvF s f pn cr cs c).toInt64) 12 0 (fl (fun k => (nI (pg k)).toInt64) m k x) = dig s f pn pg cr cs → w_X12_digest_148 post (m + 1) (nI k) M1 := by
    intro m
    induction m with
    | zero =>
      intro k x M1 hk o1 e
      have e' : fl (fun c => (cvF s f pn cr cs c).toInt64) 12 0 x = dig s f pn pg cr cs := e
      exact pk_le pn k (fun _ => ⟨13, L175 12 0 x M1 rfl o1 e'⟩) (fun z => absurd z (by omega)) (by rw [o1.1 0 (by omega)]; exact hP.1)
    | succ m ih =>
      intro k x M1 hk o1 e
      refine pk_le pn k (fun z => absurd z (by omega)) (fun z => ⟨vp_i (by omega) (by decide), ?_⟩) (by rw [o1.1 0 (by omega)]; exact hP.1)
      rw [cl_i (by omega), o1.1 13 (by omega), hP.2.2.1 k z]
      refine sM_mix o1 (fun M2 o2 => ?_)
      rw [nI_1]
      exact ih (k + 1) _ M2 (by omega) o2 e
  have L30 : ∀ m p (x : Int64) (M1 : Mm), p + m = s 1 → GM M x M1 → fl (fun c => (cvF s f pn cr cs c).toInt64) 12 0 (fl (fun k => (nI (pg k)).toInt64) pn 0 (hMe s f (itr (hPas s f) m p x))) = dig s f pn pg cr cs → w_X12_digest_30 post (m + 1) (nI p) M1 := by
    intro m
    induction m with
    | zero =>
      intro p x M1 hp o1 e
      have X1 := o1.hm hM
      have e' : fl (fun c => (cvF s f pn cr cs c).toInt64) 12 0 (fl (fun k => (nI (pg k)).toInt64) pn 0 (hMe s f x)) = dig s f pn pg cr cs := e
      unfold hMe at e'
      refine pk_le (s 1) p (fun _ => pk_le (s 2) 1 (fun z => ⟨pn + 1, ?_⟩) (fun z => ?_) X1.people) (fun z => absurd z (by omega)) X1.passages
      · rw [if_pos (by omega)] at e'
        exact L148 pn 0 x M1 (by omega) o1 e'
      · rw [if_neg (by omega)] at e'
        refine sM_meetNow (i := 0) (j := 1) (t := 2) (w := 0) X1 hV (by omega) (by omega) (by omega) (by omega) (fun M23 f23 => sM_mix (o1.eJ f23) (fun M26 o26 => ?_))
        refine sM_meetNow (i := 0) (j := 1) (t := 2) (w := 1) (o26.hm hM) hV (by omega) (by omega) (by omega) (by omega) (fun M29 f29 => sM_mix (o26.eJ f29) (fun M32 o32 => ⟨pn + 1, ?_⟩))
        exact L148 pn 0 _ M32 (by omega) o32 e'
    | succ m ih =>
      intro p x M1 hp o1 e
      have X1 := o1.hm hM
      have P1 : 1 ≤ s 2 := by rcases hV.2.1 with y | y <;> omega
      refine pk_le (s 1) p (fun z => absurd z (by omega)) (fun _ => ⟨vp_i (by omega) (by decide), ?_⟩) X1.passages
      rw [cl_i (by omega), X1.one (by omega)]
      refine sM_mix o1 (fun M36 o36 => ?_)
      rw [(o36.hm hM).other (by omega)]
      refine sM_mix o36 (fun M39 o39 => ?_)
      rw [(o39.hm hM).len (by omega)]
      refine sM_mix o39 (fun M42 o42 => ?_)
      refine sM_pairsNow (o42.hm hM) hV (by omega) P1 (fun M45 f45 => Or.inl ⟨rfl, sM_mix (o42.oP f45) (fun M48 o48 => ⟨6, ?_⟩)⟩)
      have L85 : ∀ n j (y : Int64) (M2 : Mm), j + n = 5 → GM M y M2 → fl (fun j => (pvj s f p j).toInt64) n j y = hPas s f p x → w_X12_digest_85 post (w_X12_digest_30 post (m + 1)) (n + 1) (nI p) (nI (10 + j)) M2 := by
        intro n
        induction n with
        | zero =>
          intro j y M2 hj o2 e2
          have e2' : y = hPas s f p x := e2
          refine pk_le 15 (10 + j) (fun _ => ?_) (fun z => absurd z (by omega))
          rw [nI_1]
          rw [e2'] at o2
          exact ih (p + 1) _ M2 (by omega) o2 e
        | succ n ihn =>
          intro j y M2 hj o2 e2
          refine pk_le 15 (10 + j) (fun z => absurd z (by omega)) (fun _ => ?_)
          refine sM_pairsNow (o2.hm hM) hV (by omega) P1 (fun M3 f3 => Or.inr ⟨j, by omega, rfl, sM_mix (o2.oP f3) (fun M6 o6 => ?_)⟩)
          rw [nI_1]
          exact ihn (j + 1) _ M6 (by omega) o6 e2
      exact L85 5 0 _ M48 rfl o48 rfl
  have LW : ∀ (i : Nat) (hi : i < s 2) (x : Int64) (M1 : Mm) (po : Mm → Prop), GM M x M1 → (∀ M2 : Mm, GM M (hPer s f i x) M2 → po M2) → w_X12_mixPerson (nI i) M1 po := by
    intro i hi x M1 po o1 g
    have vi := hV.2.2.2.1 i hi
    have L27 : ∀ m to (y : Int64) (M2 : Mm), to + m = s 0 → GM M y M2 → fl2 (fun to => (fv s f i to (f 6 i)).toInt64) (fun to => (pth s f (tl f i) (dL s f i to) 0 (f 6 i)).toInt64) m to y = hPer s f i x → w_X12_mixPerson_27 po (m + 1) (nI i) (nI to) M2 := by
      intro m
      induction m with
      | zero =>
        intro to y M2 ht o2 e
        have e' : y = hPer s f i x := e
        rw [e'] at o2
        exact pk_le (s 0) to (fun _ => g M2 o2) (fun z => absurd z (by omega)) (o2.hm hM).rooms
      | succ m ih =>
        intro to y M2 ht o2 e
        have X2 := o2.hm hM
        refine pk_le (s 0) to (fun z => absurd z (by omega)) (fun _ => ⟨vp_i (by omega) (by decide), ?_⟩) X2.rooms
        rw [cl_i (show i < 2 ^ 31 by omega), X2.place (by omega)]
        refine sM_far0 X2 hV hi (by omega) vi.2.2.2.1 (fun M4 o4 => sM_mix (o2.o14 o4) (fun M7 o7 => ?_))
        have X7 := o7.hm hM
        rw [X7.place (by omega)]
        refine sM_farN (N := 0) X7 hV hi (by omega) vi.2.2.2.1 (by omega) (fun M10 o10 => sM_mix (o7.o14 o10) (fun M13 o13 => ?_))
        rw [nI_1]
        exact ih (to + 1) _ M13 (by omega) o13 e
    have L2 : ∀ n c (y : Int64) (M2 : Mm), c + n = 7 → GM M y M2 → fl (fun c => (pvF s f i c).toInt64) n c y = fl (fun c => (pvF s f i c).toInt64) 7 0 x → w_X12_mixPerson_2 po (n + 1) (nI i) (nI c) M2 := by
      intro n
      induction n with
      | zero =>
        intro c y M2 hc o2 e2
        have e2' : y = fl (fun c => (pvF s f i c).toInt64) 7 0 x := e2
        refine pk_le 7 c (fun _ => ⟨s 0 + 1, L27 (s 0) 0 y M2 (by omega) o2 ?_⟩) (fun z => absurd z (by omega))
        rw [e2']
        rfl
      | succ n ihn =>
        intro c y M2 hc o2 e2
        refine pk_le 7 c (fun z => absurd z (by omega)) (fun _ => sM_tell (o2.hm hM) hV hi (by omega) (sM_mix o2 (fun M20 o20 => ?_)))
        rw [nI_1]
        exact ihn (c + 1) _ M20 (by omega) o20 e2
    exact ⟨8, L2 7 0 x M1 rfl o1 rfl⟩
  have L9 : ∀ m i (x : Int64) (M1 : Mm), i + m = s 2 → GM M x M1 → fl (fun c => (cvF s f pn cr cs c).toInt64) 12 0 (fl (fun k => (nI (pg k)).toInt64) pn 0 (hMe s f (itr (hPas s f) (s 1) 0 (itr (hPer s f) m i x)))) = dig s f pn pg cr cs → w_X12_digest_9 post (m + 1) (nI i) M1 := by
    intro m
    induction m with
    | zero =>
      intro i x M1 hi o1 e
      exact pk_le (s 2) i (fun _ => ⟨s 1 + 1, L30 (s 1) 0 x M1 (by omega) o1 e⟩) (fun z => absurd z (by omega)) (o1.hm hM).people
    | succ m ih =>
      intro i x M1 hi o1 e
      refine pk_le (s 2) i (fun z => absurd z (by omega)) (fun _ => LW i (by omega) x M1 _ o1 (fun M2 o2 => ?_)) (o1.hm hM).people
      rw [nI_1]
      exact ih (i + 1) _ M2 (by omega) o2 e
  unfold w_X12_digest
  intro M54 e54
  refine ⟨s 2 + 1, L9 (s 2) 0 1193 M54 (by omega) ⟨fun n _ => by rw [e54]; rfl, ?_⟩ rfl⟩
  rw [e54, wJ_same, pk_uLs]
theorem sim_digest (k : Nat) (MX MM : Mm) (hk : k < 512) (hR : Rel k MX MM) : w_X11_digest MX (fun r MX1 => w_X12_digest MM (fun r1 MM1 => r = r1 ∧ Rel (k + 1) MX1 MM1)) := by
  have hR1 := hR.up
  obtain ⟨s, f, pn, pg, cr, cs, hX, hM, v, hP, ⟨c1, c2, c3, c4, c5, c6⟩, h6⟩ := hR
  exact sX_digest hX v hP.xp c1 c4 (fun M1 o1 => sM_digest hM v hP.mp c2 c5 (fun M2 o2 => ⟨rfl, hR1.fr o1.co ⟨fun j _ _ _ => by rw [o2 0 (by omega)], fun n hn => o2 n (by omega)⟩⟩))
