/-! PAIRS: parts, differ, run -/
section PAIRE
variable {l : Launch} {D : va_G} {cy : Nat → ClassId} {st : St} {t nk n np nt : Nat}
theorem pr_joined (h : Rel st t nk n np nt) (k s0 : Int32) : Pair l D cy 4 3 YX11_joined YX12_joined [.int k, .int s0] st := by
  obtain ⟨h1, h2, h3, h4, h5, -⟩ := id h
  have hk4 := h2.2.1.2.1
  refine pairS (R := fun r => r.toInt = if (isS nk k ∧ 0 < pN st (qI k)) ∧ 0 ≤ s0.toInt ∧ s0.toInt < (2 ^ pN st (qI k) : Nat) then (if fb_ct (bitS (qI s0)) 7 < pKn st (qI k) then -2 else vaF (first (qI s0) (pKn st (qI k))) (ptY st (qI k)) 0) else -1) (R2 := fun r => ∃ s1, agM st s1 ∧ r.toInt = if (isS nk k ∧ 0 < mN s1 (qI k)) ∧ 0 ≤ s0.toInt ∧ s0.toInt < (2 ^ mN s1 (qI k) : Nat) then (if fb_ct (bitS (qI s0)) 7 < mKn s1 (qI k) then -2 else vaF (first (qI s0) (mKn s1 (qI k))) (mptY s1 (qI k)) 0) else -1) h (Mi.mono (m_joined st h2.2.1.1 hk4 (ptsOK_of h4 hk4) k s0) (fun r u q => ⟨by rw [q.1]; exact scr.refl _, q.2⟩)) (fun u hu => ?_) (fun r r2 q q2 => i32 ?_)
  · have hu2 := hu.trans (scr_thr u 0)
    have ag := agM_scr hu2
    refine Mi.mono (w_joined u _ rfl (nk := nk) (by rw [ag.1 31 53 (by omega)]; exact h2.2.1.2.2) hk4 (mpts_same (mptsOK_of h4 hk4) ag) k s0) (fun r2 u2 q2 => ?_)
    obtain ⟨⟨f, rfl⟩, q2⟩ := q2
    exact ⟨(scr_thr u 0).trans (scr_R _ _ f (by omega)), _, ag, q2⟩
  · obtain ⟨s1, ag, q2⟩ := q2
    rw [q, q2]
    by_cases c : isS nk k
    · have hi : qI k < 4 := by show k.toInt.toNat < 4; omega
      obtain ⟨m1, m2, m3⟩ := mpt_eq h4 ag hi
      rw [m1, m2, vaF_cong m3]
    · rw [if_neg (fun z => c z.1.1), if_neg (fun z => c z.1.1)]
theorem pr_who (h : Rel st t nk n np nt) (k : Int32) : Pair l D cy 6 3 YX11_who YX12_who [.int k] st := by
  obtain ⟨h1, h2, h3, h4, h5, -⟩ := id h
  have hk4 := h2.2.1.2.1
  refine pairS (R := fun r => (isS nk k ∧ 0 < pN st (qI k) → whoR (pN st (qI k)) (pKn st (qI k)) (ptY st (qI k)) r.toInt) ∧ (¬ (isS nk k ∧ 0 < pN st (qI k)) → r = -1)) (R2 := fun r => ∃ s1, agM st s1 ∧ (isS nk k ∧ 0 < mN s1 (qI k) → whoR (mN s1 (qI k)) (mKn s1 (qI k)) (mptY s1 (qI k)) r.toInt) ∧ (¬ (isS nk k ∧ 0 < mN s1 (qI k)) → r = -1)) h (Mi.mono (m_who st h2.2.1.1 hk4 (ptsOK_of h4 hk4) k) (fun r u q => ⟨by rw [q.1]; exact scr.refl _, q.2⟩)) (fun u hu => ?_) (fun r r2 q q2 => ?_)
  · have hu2 := hu.trans (scr_thr u 0)
    have ag := agM_scr hu2
    refine Mi.mono (w_who u _ rfl (nk := nk) (by rw [ag.1 31 53 (by omega)]; exact h2.2.1.2.2) hk4 (mpts_same (mptsOK_of h4 hk4) ag) k) (fun r2 u2 q2 => ?_)
    obtain ⟨⟨f, rfl⟩, q2⟩ := q2
    exact ⟨(scr_thr u 0).trans (scr_R _ _ f (by omega)), _, ag, q2⟩
  · obtain ⟨s1, ag, q2⟩ := q2
    by_cases c : isS nk k
    · have hi : qI k < 4 := by show k.toInt.toNat < 4; omega
      obtain ⟨m1, m2, m3⟩ := mpt_eq h4 ag hi
      rw [m1, m2] at q2
      by_cases c2 : isS nk k ∧ 0 < pN st (qI k)
      · exact i32 (whoR_one (whoR_cong m3 (q2.1 c2)) (q.1 c2))
      · rw [q2.2 c2, q.2 c2]
    · rw [q2.2 (fun z => c z.1), q.2 (fun z => c z.1)]
abbrev pP (a j : Nat) : Prop := (84 ≤ a ∧ a ≤ 94 ∧ a % 3 ≠ 2) ∨ a = 78 ∨ a = 79 ∨ (a = 31 ∧ j = 18)
theorem Rel_pts (h : Rel st t nk n np nt) {u : St} (e : ch pP (fun a => a = 80) st u) (hb : B4 u nk) : Rel u t nk n np nt := by
  obtain ⟨h1, h2, h3, h4, h5, h6, h7, h8, h9, h10⟩ := h
  exact ⟨h1.same (fun a j q => e.1 a j (by omega)), h2.same (fun a j q => e.1 a j (by omega)), h3.same (fun a j q => e.1 a j (by omega)) (fun a q => e.2 a (by omega)), hb, h5.same (fun a j q => e.1 a j (by omega)), h6.same (fun a j q => e.1 a j (by omega)), h7.same (fun a j q => e.1 a j (by omega)), h8.same (fun a j q => e.1 a j (by omega)), h9.same (fun a j q => e.1 a j (by omega)), ky_same h10 (fun a q => e.2 a (by omega))⟩
theorem dl_rng (p : Int) (seed : Int32) (k j : Nat) (x : Int) (hx : x = dlF p seed k j) : 0 ≤ x ∧ x < 100003 := by
  rw [hx]
  unfold dlF
  exact ⟨Int.emod_nonneg _ (by decide), Int.emod_lt_of_pos _ (by decide)⟩
theorem pr_parts (h : Rel st t nk n np nt) (k a b seed : Int32) : Pair l D cy 3 2 YX11_parts YX12_parts [.int k, .int a, .int b, .int seed] st := by
  obtain ⟨h1, h2, h3, h4, h5, h6, h7, h8, h9, h10⟩ := id h
  have hk4 := h2.2.1.2.1
  refine Mi.mono (m_parts st (xOK_of h2 h3) k a b seed) (fun r u q => ?_)
  by_cases c0 : isS nk k ∧ (2 ≤ a.toInt ∧ a.toInt ≤ 6) ∧ 1 ≤ b.toInt ∧ b.toInt ≤ a.toInt
  · rw [if_pos c0] at q
    have hi : qI k < nk := by have := c0.1; show k.toInt.toNat < nk; omega
    have hqa : qI a ≤ 6 := by show a.toInt.toNat ≤ 6; omega
    have hqa2 : 2 ≤ qI a := by show 2 ≤ a.toInt.toNat; omega
    have hqb : qI b ≤ 6 := by show b.toInt.toNat ≤ 6; omega
    have hqb1 : 1 ≤ qI b := by show 1 ≤ b.toInt.toNat; omega
    obtain ⟨rfl, f, rfl, f1, f2⟩ := q
    have hcm : ch (fun x j => (84 ≤ x ∧ x ≤ 94 ∧ x % 3 ≠ 2) ∨ (x = 31 ∧ j = 18)) (fun _ => False) st (sI (dealS st (qI k) (qI a) (qI b) f) 31 18 0) := by
      unfold dealS
      exact ((((ch.refl _ _ st).I _ (by omega)).I _ (by omega)).R _ (fun j => by omega)).I _ (by omega)
    have ag := agM_ch hcm (fun a j q => by omega) (fun a q => False.elim q)
    refine Mi.mono (w_parts _ _ rfl (mOK_same (mOK_of h2 h3) ag) k a b seed) (fun r2 u2 q2 => ?_)
    rw [if_pos c0] at q2
    obtain ⟨rfl, g, rfl, g1, g2⟩ := q2
    rw [(keyM2 h2 ag hi).1] at g1
    refine ⟨rfl, ?_⟩
    generalize hu : dealM (sI (dealS st (qI k) (qI a) (qI b) f) 31 18 0) (qI k) (qI a) (qI b) g = u
    have hc : ch pP (fun a => a = 80) st u := by
      rw [← hu]
      unfold dealM
      have hc9 : ch pP (fun a => a = 80) st (sI (dealS st (qI k) (qI a) (qI b) f) 31 18 0) := ⟨fun x j q => hcm.1 x j (by omega), fun x q => hcm.2 x (fun z => z)⟩
      exact ((hc9.I _ (by omega)).I _ (by omega)).LR _ rfl
    have hcd : ∀ x j, (84 ≤ x ∧ x ≤ 94) → u.1 x j = (dealS st (qI k) (qI a) (qI b) f).1 x j := fun x j hx => by
      rw [← hu]
      show (sI (sI (sI (dealS st (qI k) (qI a) (qI b) f) 31 18 0) 78 (qI k) (nI (qI a))) 79 (qI k) (nI (qI b))).1 x j = _
      rw [sI_row (by omega), sI_row (by omega), sI_row (by omega)]
    have hm8 : ∀ j, u.1 78 j = if j = qI k then nI (qI a) else st.1 78 j := fun j => by
      rw [← hu]
      show (sI (sI (sI (dealS st (qI k) (qI a) (qI b) f) 31 18 0) 78 (qI k) (nI (qI a))) 79 (qI k) (nI (qI b))).1 78 j = _
      rw [sI_row (by decide), sI_at, ag.1 78 j (by omega)]
    have hm9 : ∀ j, u.1 79 j = if j = qI k then nI (qI b) else st.1 79 j := fun j => by
      rw [← hu]
      show (sI (sI (sI (dealS st (qI k) (qI a) (qI b) f) 31 18 0) 78 (qI k) (nI (qI a))) 79 (qI k) (nI (qI b))).1 79 j = _
      rw [sI_at, sI_row (by decide), ag.1 79 j (by omega)]
    have hml : u.2 80 = g := by
      rw [← hu]
      unfold dealM
      rw [sLR_2, if_pos rfl]
    have hx85 : u.1 (85 + 3 * qI k) = f := funext (fun j => by
      rw [hcd _ j (by omega)]
      unfold dealS
      rw [sR_11, if_pos rfl])
    have hx84 : u.1 (84 + 3 * qI k) 1 = nI (qI a) ∧ u.1 (84 + 3 * qI k) 2 = nI (qI b) := by
      rw [hcd _ 1 (by omega), hcd _ 2 (by omega)]
      unfold dealS
      rw [sR_11, if_neg (by omega), sR_11, if_neg (by omega)]
      exact ⟨by rw [sI_at, if_neg (by decide), sI_at, if_pos rfl], by rw [sI_at, if_pos rfl]⟩
    have hoth : ∀ i, i ≠ qI k → i < 4 → (∀ j, u.1 (84 + 3 * i) j = st.1 (84 + 3 * i) j) ∧ u.1 (85 + 3 * i) = st.1 (85 + 3 * i) := fun i hi2 h44 => by
      refine ⟨fun j => ?_, funext (fun j => ?_)⟩
      · rw [hcd _ j (by omega)]
        unfold dealS
        rw [sR_11, if_neg (by omega), sI_row (by omega), sI_row (by omega)]
      · rw [hcd _ j (by omega)]
        unfold dealS
        rw [sR_11, if_neg (by omega), sI_row (by omega), sI_row (by omega)]
    clear hu
    refine (Rel_pts h hc (fun i hi4 => ?_)).E
    by_cases e : i = qI k
    · subst e
      have pn : pN u (qI k) = qI a := by unfold pN; rw [hx84.1, nI_toInt (by omega)]; rfl
      have pk : pKn u (qI k) = qI b := by unfold pKn; rw [hx84.2, nI_toInt (by omega)]; rfl
      have hy : ∀ j, 1 ≤ j → j < 7 → (0 ≤ (f j).toInt ∧ (f j).toInt < 100003) ∧ (g (6 * qI k + j - 1)).toInt = (f j).toInt := fun j j1 j7 => by
        by_cases cj : j ≤ qI a
        · rw [g1 j j1 cj, f1 j j1 cj]
          exact ⟨dl_rng _ _ _ _ _ rfl, rfl⟩
        · rw [g2 _ (fun z z1 z2 => by omega), f2 j (by omega)]
          refine ⟨(h4 _ (by omega)).2.2.1.2.2.2.2 j j1 j7, ?_⟩
          rw [ag.2 80 (by omega)]
          exact (h4 _ (by omega)).2.1 j j1 j7
      unfold B4i
      rw [pn, pk, hm8, hm9, if_pos rfl, if_pos rfl, hx84.1, hx84.2]
      refine ⟨⟨rfl, rfl⟩, fun j j1 j7 => ?_, ⟨hx84.1, hqa, hx84.2, hqb, fun j j1 j7 => ?_⟩, fun _ => hqb1, fun z => by omega⟩
      · unfold mptY ptY
        rw [hml, hx85]
        exact (hy j j1 j7).2
      · rw [hx85]
        exact (hy j j1 j7).1
    · obtain ⟨o1, o2⟩ := hoth i e hi4
      have h9 := h4 i hi4
      unfold B4i mptY ptY ptOK pN pKn at *
      rw [o1 1, o1 2, o2, hm8, hm9, if_neg e, if_neg e, hml]
      refine ⟨h9.1, fun j j1 j7 => ?_, h9.2.2⟩
      rw [g2 _ (fun z z1 z2 => by omega), ag.2 80 (by omega)]
      exact h9.2.1 j j1 j7
  · rw [if_neg c0] at q
    obtain ⟨rfl, e⟩ := q
    rw [e]
    refine Mi.mono (w_parts _ _ rfl (mOK_same (mOK_of h2 h3) (agM_scr (scr_thr st 0))) k a b seed) (fun r2 u2 q2 => ?_)
    rw [if_neg c0] at q2
    rw [q2.2]
    exact ⟨q2.1, (h.scr (scr_thr _ _)).E⟩
theorem pr_spoil (h : Rel st t nk n np nt) (k j v : Int32) : Pair l D cy 3 2 YX11_spoil YX12_spoil [.int k, .int j, .int v] st := by
  obtain ⟨h1, h2, h3, h4, h5, h6, h7, h8, h9, h10⟩ := id h
  have hk4 := h2.2.1.2.1
  have key : ∀ u, agM st (sI u 31 18 0) → Mi l D cy 2 YX12_spoil [.ref 31, .int k, .int j, .int v] u (fun r2 u2 => if ((isS nk k ∧ 0 < pN st (qI k)) ∧ 1 ≤ j.toInt ∧ j.toInt ≤ pN st (qI k)) ∧ 0 ≤ v.toInt ∧ v.toInt < 100003 then r2 = 1 ∧ u2 = sL (sI u 31 18 0) 80 (6 * qI k + qI j - 1) v.toInt64 else r2 = 0 ∧ u2 = sI u 31 18 0) := by
    intro u ag
    refine Mi.mono (w_spoil u _ rfl (nk := nk) (by rw [ag.1 31 53 (by omega)]; exact h2.2.1.2.2) hk4 (mpts_same (mptsOK_of h4 hk4) ag) k j v) (fun r2 u2 q2 => ?_)
    by_cases c : isS nk k
    · rw [(mpt_eq h4 ag (show qI k < 4 by show k.toInt.toNat < 4; omega)).1] at q2
      exact q2
    · rw [if_neg (fun z => c z.1.1.1)] at q2 ⊢
      exact q2
  refine Mi.mono (m_spoil st h2.2.1.1 hk4 (ptsOK_of h4 hk4) k j v) (fun r u q => ?_)
  by_cases c0 : ((isS nk k ∧ 0 < pN st (qI k)) ∧ 1 ≤ j.toInt ∧ j.toInt ≤ pN st (qI k)) ∧ 0 ≤ v.toInt ∧ v.toInt < 100003
  · rw [if_pos c0] at q
    obtain ⟨rfl, rfl⟩ := q
    have hi : qI k < 4 := by have := c0.1.1.1; show k.toInt.toNat < 4; omega
    have hj6 := (h4 _ hi).2.2.1.2.1
    have hqj : 1 ≤ qI j ∧ qI j < 7 := by have := c0.1.2; exact ⟨by show 1 ≤ j.toInt.toNat; omega, by show j.toInt.toNat < 7; omega⟩
    have hcm : ch (fun x i => x = 85 + 3 * qI k ∨ (x = 31 ∧ i = 18)) (fun _ => False) st (sI (sI st (85 + 3 * qI k) (qI j) v) 31 18 0) := ((ch.refl _ _ st).I _ (by omega)).I _ (by omega)
    have ag := agM_ch hcm (fun a j q => by omega) (fun a q => False.elim q)
    refine Mi.mono (key _ ag) (fun r2 u2 q2 => ?_)
    rw [if_pos c0] at q2
    obtain ⟨rfl, rfl⟩ := q2
    refine ⟨rfl, ?_⟩
    generalize hu : sL (sI (sI st (85 + 3 * qI k) (qI j) v) 31 18 0) 80 (6 * qI k + qI j - 1) v.toInt64 = u
    have hc : ch pP (fun a => a = 80) st u := by
      rw [← hu]
      exact (((ch.refl _ _ st).I _ (by omega)).I _ (by omega)).L _ rfl
    have hx : ∀ x i, x ≠ 85 + 3 * qI k → x ≠ 31 → u.1 x i = st.1 x i := fun x i e1 e2 => by
      rw [← hu]
      show (sI (sI st (85 + 3 * qI k) (qI j) v) 31 18 0).1 x i = _
      rw [sI_row e2, sI_row e1]
    have hx85 : ∀ i, u.1 (85 + 3 * qI k) i = if i = qI j then v else st.1 (85 + 3 * qI k) i := fun i => by
      rw [← hu]
      show (sI (sI st (85 + 3 * qI k) (qI j) v) 31 18 0).1 (85 + 3 * qI k) i = _
      rw [sI_row (by omega), sI_at]
    have hm : ∀ i, u.2 80 i = if i = 6 * qI k + qI j - 1 then v.toInt64 else st.2 80 i := fun i => by rw [← hu, sL_at]; rfl
    clear hu
    refine (Rel_pts h hc (fun i hi4 => ?_)).E
    have h9 := h4 i hi4
    have p1 : pN u i = pN st i := by unfold pN; rw [hx _ _ (by omega) (by omega)]
    have p2 : pKn u i = pKn st i := by unfold pKn; rw [hx _ _ (by omega) (by omega)]
    unfold B4i ptOK
    rw [p1, p2, hx 78 i (by omega) (by omega), hx 79 i (by omega) (by omega), hx (84 + 3 * i) 1 (by omega) (by omega), hx (84 + 3 * i) 2 (by omega) (by omega)]
    obtain ⟨g1, g2, ⟨g3, g4, g5, g6, g7⟩, g8, g9⟩ := h9
    by_cases e : i = qI k
    · subst e
      refine ⟨g1, fun z z1 z7 => ?_, ⟨g3, g4, g5, g6, fun z z1 z7 => ?_⟩, g8, g9⟩
      · unfold mptY ptY
        rw [hm, hx85]
        by_cases ez : z = qI j
        · rw [if_pos (by omega), if_pos ez]
          exact Int32.toInt_toInt64 v
        · rw [if_neg (by omega), if_neg ez]
          exact g2 z z1 z7
      · rw [hx85]
        by_cases ez : z = qI j
        · rw [if_pos ez]
          exact c0.2
        · rw [if_neg ez]
          exact g7 z z1 z7
    · have e85 : ∀ z, u.1 (85 + 3 * i) z = st.1 (85 + 3 * i) z := fun z => hx _ z (by omega) (by omega)
      refine ⟨g1, fun z z1 z7 => ?_, ⟨g3, g4, g5, g6, fun z z1 z7 => ?_⟩, g8, g9⟩
      · unfold mptY ptY
        rw [hm, if_neg (by omega), e85]
        exact g2 z z1 z7
      · rw [e85]
        exact g7 z z1 z7
  · rw [if_neg c0] at q
    obtain ⟨rfl, e⟩ := q
    rw [e]
    refine Mi.mono (key st (agM_scr (scr_thr st 0))) (fun r2 u2 q2 => ?_)
    rw [if_neg c0] at q2
    rw [q2.2]
    exact ⟨q2.1, (h.scr (scr_thr _ _)).E⟩
abbrev pD (a j : Nat) : Prop := a = 29 ∨ scI a j
theorem Rel_dif (h : Rel st t nk n np nt) {u : St} (e : ch pD scL st u) (hb : B6 u t np) : Rel u t nk n np nt := by
  obtain ⟨h1, h2, h3, h4, h5, h6, h7, h8, h9, h10⟩ := h
  exact ⟨h1.same (fun a j q => e.1 a j (by omega)), h2.same (fun a j q => e.1 a j (by omega)), h3.same (fun a j q => e.1 a j (by omega)) (fun a q => e.2 a (by omega)), h4.same (fun a j q => e.1 a j (by omega)) (fun a q => e.2 a (by omega)), h5.same (fun a j q => e.1 a j (by omega)), hb, h7.same (fun a j q => e.1 a j (by omega)), h8.same (fun a j q => e.1 a j (by omega)), h9.same (fun a j q => e.1 a j (by omega)), ky_same h10 (fun a q => e.2 a (by omega))⟩
theorem pr_differ (h : Rel st t nk n np nt) (x y : Int32) : Pair l D cy 5 4 YX11_differ YX12_differ [.int x, .int y] st := by
  obtain ⟨h1, h2, h3, h4, h5, h6, h7, h8, h9, h10⟩ := id h
  have hn4 := h5.2.1
  have ed : ∀ a b, difN st a b = dfN st t a b := fun a b => by unfold difN dfN; rw [(t_of h2).1]
  have key : ∀ u, agM st (sI u 31 18 0) → Mi l D cy 4 YX12_differ [.ref 31, .int x, .int y] u (fun z u2 => scr u u2 ∧ if isS np x ∧ isS np y ∧ (st.1 (95 + 5 * (qI x)) 4).toInt = (st.1 (95 + 5 * (qI y)) 4).toInt ∧ (st.1 (95 + 5 * (qI x)) 4).toInt ≤ 4 ∧ (st.1 (95 + 5 * (qI x)) 6).toInt = (st.1 (95 + 5 * (qI y)) 6).toInt then z.toInt = (dfN st t (qI x) (qI y) : Int) else z = -1) := by
    intro u ag
    have eb : (sI u 31 18 0).1 31 17 = st.1 31 17 := ag.1 31 17 (by omega)
    have tb : tOK ((sI u 31 18 0).1 31 17) := by rw [eb]; exact ⟨by rw [(t_of h2).2]; have := h2.1.2.1; omega, by rw [(t_of h2).2]; have := h2.1.2.2.1; omega⟩
    refine Mi.mono (w_differ u _ rfl tb np (by rw [ag.1 31 19 (by omega)]; exact h5.2.2.1) h5.2.1 (mPg_all h2 h5 ag) x y) (fun z u2 q2 => ?_)
    rw [eb, (t_of h2).2] at q2
    by_cases c1 : isS np x
    · by_cases c2 : isS np y
      · obtain ⟨w1, w2, w3⟩ := pg_n h5 c1
        obtain ⟨v1, v2, v3⟩ := pg_n h5 c2
        by_cases c : isS np x ∧ isS np y ∧ (st.1 (95 + 5 * (qI x)) 4).toInt = (st.1 (95 + 5 * (qI y)) 4).toInt ∧ (st.1 (95 + 5 * (qI x)) 4).toInt ≤ 4 ∧ (st.1 (95 + 5 * (qI x)) 6).toInt = (st.1 (95 + 5 * (qI y)) 6).toInt
        · rw [if_pos c]
          rw [if_pos ⟨c1, c2, by omega, by omega, by omega⟩] at q2
          obtain ⟨⟨f, g, k, rfl⟩, q2⟩ := q2
          refine ⟨(((scr_thr u 0).trans (scr_R _ _ k (by omega))).trans (scr_R _ _ f (by omega))).trans (scr_R _ _ g (by omega)), ?_⟩
          rw [q2]
          unfold dfN difB difM
          rw [c.2.2.2.2]
          rfl
        · rw [if_neg c]
          rw [if_neg (fun z => c ⟨c1, c2, by have := z.2.2.1; omega, by have := z.2.2.2.1; omega, by have := z.2.2.2.2; omega⟩)] at q2
          rw [q2.2]
          exact ⟨scr_thr u 0, q2.1⟩
      · rw [if_neg (fun z => c2 z.2.1)] at q2 ⊢
        rw [q2.2]
        exact ⟨scr_thr u 0, q2.1⟩
    · rw [if_neg (fun z => c1 z.1)] at q2 ⊢
      rw [q2.2]
      exact ⟨scr_thr u 0, q2.1⟩
  refine Mi.mono (m_differ st (pOK_of h2 h5) x y (fun a b ha hb => ?_)) (fun r u q => ?_)
  · rw [ed]
    exact (h6 a b (by omega) (by omega)).elim Or.inl (fun z => Or.inr z.2.2)
  by_cases c : isS np x ∧ isS np y ∧ (st.1 (95 + 5 * (qI x)) 4).toInt = (st.1 (95 + 5 * (qI y)) 4).toInt ∧ (st.1 (95 + 5 * (qI x)) 4).toInt ≤ 4 ∧ (st.1 (95 + 5 * (qI x)) 6).toInt = (st.1 (95 + 5 * (qI y)) 6).toInt
  · rw [if_pos c] at q
    obtain ⟨q1, q2⟩ := q
    rw [ed] at q1
    have hx : qI x < np := by have := c.1; show x.toInt.toNat < np; omega
    have hy : qI y < np := by have := c.2.1; show y.toInt.toNat < np; omega
    rcases q2 with e | ⟨f, g, rfl⟩
    · rw [e]
      refine Mi.mono (key st (agM_scr (scr_thr st 0))) (fun z u2 q2 => ?_)
      rw [if_pos c] at q2
      exact ⟨i32 (q2.2.trans q1.symm), (h.scr q2.1).E⟩
    · have hc0 : ch pD scL st (sI (sR (sR st 25 f) 27 g) 29 (4 * qI x + qI y) r) := (((ch.refl _ _ st).R _ (fun j => by omega)).R _ (fun j => by omega)).I _ (by omega)
      have hc1 := hc0.I (k := 31) (i := 18) 0 (by omega)
      have ag : agM st (sI (sI (sR (sR st 25 f) 27 g) 29 (4 * qI x + qI y) r) 31 18 0) := agM_ch hc1 (fun a j q => by omega) (fun a q => by omega)
      refine Mi.mono (key _ ag) (fun z u2 q2 => ?_)
      rw [if_pos c] at q2
      have hc2 := hc0.S q2.1 (fun a j q => Or.inr q) (fun a q => q)
      refine ⟨i32 (q2.2.trans q1.symm), (Rel_dif h hc2 (fun a b ha hb => ?_)).E⟩
      have e29 : u2.1 29 (4 * a + b) = if 4 * a + b = 4 * qI x + qI y then r else st.1 29 (4 * a + b) := by
        rw [q2.1.1 29 _ (by omega), sI_at, sR_11, sR_11]
        rfl
      rw [e29, dfN_same ha hb (fun a j ha => hc2.1 a j (by omega))]
      by_cases c9 : 4 * a + b = 4 * qI x + qI y
      · have e1 : a = qI x := by omega
        have e2 : b = qI y := by omega
        rw [if_pos c9, e1, e2]
        exact Or.inr ⟨hx, hy, q1⟩
      · rw [if_neg c9]
        exact h6 a b ha hb
  · rw [if_neg c] at q
    obtain ⟨rfl, e⟩ := q
    rw [e]
    refine Mi.mono (key st (agM_scr (scr_thr st 0))) (fun z u2 q2 => ?_)
    rw [if_neg c] at q2
    exact ⟨q2.2, (h.scr q2.1).E⟩
end PAIRE
