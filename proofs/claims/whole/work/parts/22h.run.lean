/-! PAIRS: run -/
theorem rnF_rg {K A B : Nat → Int} {p q b t lay ins : Int} {seed : Int32} {s : (Nat → Int) × (Nat → Int)} {W : Nat} (hk : kOK p q b) (ht : 2 ≤ t ∧ t ≤ 13) (hw : wksOK t ins K A B W) (hs : ∀ j : Nat, 40 ≤ j → (j : Int) < 40 + ins → (0 ≤ s.1 j ∧ s.1 j < 100000000) ∧ 0 ≤ s.2 j ∧ s.2 j ≤ 1000000) (hW : W ≤ 40) : ∀ (k : Nat), k ≤ W → ∀ s0, rnF K A B p q b t lay seed s k = some s0 → ∀ j : Nat, (j < k ∨ (40 ≤ j ∧ (j : Int) < 40 + ins)) → (0 ≤ s0.1 j ∧ s0.1 j < 100000000) ∧ 0 ≤ s0.2 j ∧ s0.2 j ≤ 1000000
  | 0, _, s0, h, j, hj => by
    have e : s0 = s := (Option.some.inj h).symm
    rw [e]
    exact hs j (by omega) (by omega)
  | k + 1, hk1, s0, h, j, hj => by
    have hpq := pq_rng hk
    have htb := tb_rng ht hk.2.2.2.2
    obtain ⟨s9, h9, -⟩ := rnF_back h
    have ih := rnF_rg hk ht hw hs hW k (by omega) s9 h9
    rw [rnF_step h9] at h
    obtain ⟨w1, w2, w3, w4, w5, w6⟩ := hw k (by omega)
    have hA : 0 ≤ s9.2 (A k).toNat := by
      refine (ih (A k).toNat ?_).2.1
      rcases w3 with z | z
      · exact Or.inl (by omega)
      · exact Or.inr (by omega)
    have hC := workF_rng (K k) (s9.1 (A k).toNat) (if K k = 4 ∨ K k = 5 then B k else s9.1 (B k).toNat) (m := p * q) (by omega)
    have hB := bound_rng (K k) (s9.2 (A k).toNat) (if K k = 4 ∨ K k = 5 then B k else s9.2 (B k).toNat) hA
    have fin : ∀ x y : Int, (0 ≤ x ∧ x < 100000000) → (0 ≤ y ∧ y ≤ 1000000) → s0 = (putN s9.1 k x, putN s9.2 k y) → (0 ≤ s0.1 j ∧ s0.1 j < 100000000) ∧ 0 ≤ s0.2 j ∧ s0.2 j ≤ 1000000 := by
      intro x y hx hy e
      rw [e]
      show (0 ≤ (if j = k then x else s9.1 j) ∧ (if j = k then x else s9.1 j) < 100000000) ∧ 0 ≤ (if j = k then y else s9.2 j) ∧ (if j = k then y else s9.2 j) ≤ 1000000
      by_cases c : j = k
      · rw [if_pos c, if_pos c]; exact ⟨hx, hy⟩
      · rw [if_neg c, if_neg c]; exact ih j (by omega)
    by_cases c : laidF lay k
    · rw [if_pos c] at h
      by_cases c2 : p ≤ 2 * wkB K A B s9.2 k
      · rw [if_pos c2] at h; cases h
      · rw [if_neg c2] at h
        exact fin _ _ (frs_rng hk _) ⟨by omega, by omega⟩ (Option.some.inj h).symm
    · rw [if_neg c] at h
      exact fin _ _ ⟨hC.1, by have := hC.2; omega⟩ hB (Option.some.inj h).symm
theorem addR_ch {P : Nat → Nat → Prop} {Q : Nat → Prop} {s st : St} {n : Nat} {key : Int32} {C Bd : Nat → Int} (h0 : ch P Q s st) (hp : ∀ a j, (18 ≤ a ∧ a ≤ 21) ∧ n ≤ j → P a j) (h17 : P 17 4) : ∀ {k : Nat} {u : St}, addR st n key C Bd k u → ch P Q s u
  | 0, u, h => by
    have e : u = st := h
    rw [e]
    exact h0
  | k + 1, u, h => by
    obtain ⟨u0, hu0, c, b, -, -, rfl⟩ := h
    exact addX_ch (addR_ch h0 hp h17 hu0) (fun a ha => hp a _ ⟨ha, by omega⟩) h17 _ _ _ _
theorem addR_rows {st : St} {n : Nat} {key : Int32} {C Bd : Nat → Int} (h17 : st.1 17 4 = nI n) : ∀ {k : Nat} {u : St}, addR st n key C Bd k u → u.1 17 4 = nI (n + k) ∧ ∀ j, j < k → u.1 18 (n + j) = key ∧ (u.1 19 (n + j)).toInt = C j ∧ (u.1 20 (n + j)).toInt = Bd j ∧ u.1 21 (n + j) = 7
  | 0, u, h => by
    have e : u = st := h
    rw [e]
    exact ⟨h17, fun j hj => absurd hj (Nat.not_lt_zero _)⟩
  | k + 1, u, h => by
    obtain ⟨u0, hu0, c, b, hc, hb, rfl⟩ := h
    obtain ⟨-, ih⟩ := addR_rows h17 hu0
    obtain ⟨a1, a2, a3, a4, a5⟩ := add_at u0 (n + k) key c b 7
    refine ⟨a5, fun j hj => ?_⟩
    by_cases e : j = k
    · rw [e, a1, a2, a3, a4]
      exact ⟨rfl, hc, hb, rfl⟩
    · have hch := addX_ch (P := fun a i => (18 ≤ a ∧ a ≤ 21 ∧ i = n + k) ∨ a = 17) (Q := fun _ => False) (ch.refl _ _ u0) (m := n + k) (fun a ha => by omega) (by omega) key c b 7
      rw [hch.1 18 _ (by omega), hch.1 19 _ (by omega), hch.1 20 _ (by omega), hch.1 21 _ (by omega)]
      exact ih j (by omega)
theorem selR_ch {P : Nat → Nat → Prop} {Q : Nat → Prop} {s st : St} {n : Nat} {key : Int32} {C Bd : Nat → Int} (h0 : ch P Q s st) (hp : ∀ a j, (a = 67 ∨ a = 70) ∧ n ≤ j → P a j) (h58 : P 31 58) (q68 : Q 68) (q69 : Q 69) : ∀ {k : Nat} {u : St}, selR st n key C Bd k u → ch P Q s u
  | 0, u, h => by
    have e : u = st := h
    rw [e]
    exact h0
  | k + 1, u, h => by
    obtain ⟨u0, hu0, c, b, -, -, rfl⟩ := h
    exact selM_ch (selR_ch h0 hp h58 q68 q69 hu0) (hp 67 _ ⟨Or.inl rfl, by omega⟩) (hp 70 _ ⟨Or.inr rfl, by omega⟩) h58 q68 q69 _ _ _ _
theorem selR_rows {st : St} {n : Nat} {key : Int32} {C Bd : Nat → Int} (h58 : st.1 31 58 = nI n) : ∀ {k : Nat} {u : St}, selR st n key C Bd k u → u.1 31 58 = nI (n + k) ∧ (∀ j, j < n → u.2 68 j = st.2 68 j ∧ u.2 69 j = st.2 69 j) ∧ ∀ j, j < k → u.1 67 (n + j) = key ∧ (u.2 68 (n + j)).toInt = C j ∧ (u.2 69 (n + j)).toInt = Bd j ∧ u.1 70 (n + j) = 7
  | 0, u, h => by
    have e : u = st := h
    rw [e]
    exact ⟨h58, fun j _ => ⟨rfl, rfl⟩, fun j hj => absurd hj (Nat.not_lt_zero _)⟩
  | k + 1, u, h => by
    obtain ⟨u0, hu0, c, b, hc, hb, rfl⟩ := h
    obtain ⟨-, ih0, ih⟩ := selR_rows h58 hu0
    obtain ⟨a1, a2, a3, a4, a5, a6⟩ := sel_at u0 (n + k) key 7 c b
    refine ⟨a3, fun j hj => ?_, fun j hj => ?_⟩
    · rw [(a6 j (by omega)).1, (a6 j (by omega)).2]
      exact ih0 j hj
    by_cases e : j = k
    · rw [e, a1, a2, a4, a5]
      exact ⟨rfl, hc, hb, rfl⟩
    · have hch := selM_ch (P := fun a i => ((a = 67 ∨ a = 70) ∧ i = n + k) ∨ a = 31) (Q := fun a => a = 68 ∨ a = 69) (ch.refl _ _ u0) (m := n + k) (by omega) (by omega) (by omega) (by omega) (by omega) key 7 c b
      rw [hch.1 67 _ (by omega), hch.1 70 _ (by omega), (a6 _ (by omega)).1, (a6 _ (by omega)).2]
      exact ih j (by omega)
theorem selR_cong {st : St} {n : Nat} {key : Int32} {C C2 Bd B2 : Nat → Int} : ∀ {k : Nat} {u : St}, (∀ j, j < k → C j = C2 j ∧ Bd j = B2 j) → selR st n key C Bd k u → selR st n key C2 B2 k u
  | 0, _, _, h => h
  | k + 1, u, he, h => by
    obtain ⟨u0, h0, c, b, h1, h2, h3⟩ := h
    exact ⟨u0, selR_cong (fun j hj => he j (by omega)) h0, c, b, by rw [h1]; exact (he k (by omega)).1, by rw [h2]; exact (he k (by omega)).2, h3⟩
section PRUN
variable {l : Launch} {D : va_G} {cy : Nat → ClassId} {st : St} {t nk n np nt : Nat}
theorem pr_run (h : Rel st t nk n np nt) (x k seed : Int32) : Pair l D cy 6 4 YX11_run YX12_run [.int x, .int k, .int seed] st := by
  obtain ⟨h1, h2, h3, h4, h5, h6, h7, h8, h9, h10⟩ := id h
  have hn60 := h3.2.1
  have giv : ∀ s1, agM st s1 → ∀ i, i < 6 → mgv s1 i = xgv st i := fun s1 ag i hi => by
    unfold mgv xgv
    rw [ag.1 72 i (by omega), (h7 i hi).1]
  have rowv : ∀ s1, agM st s1 → ∀ a, a < n → mkof s1 a = xkof st a ∧ mcof s1 a = xcof st a ∧ mbof s1 a = xbof st a := fun s1 ag a ha => by
    obtain ⟨⟨-, e2⟩, ⟨-, -, b9⟩, ⟨-, -, c9⟩, -⟩ := h3.2.2.2 a ha
    unfold mkof xkof mcof xcof mbof xbof
    rw [ag.1 67 a (by omega), ag.2 68 (by omega), ag.2 69 (by omega), e2, b9, c9]
    exact ⟨rfl, rfl, rfl⟩
  have gvn : ∀ i, i < 6 → 0 ≤ xgv st i → (xgv st i).toNat < n := fun i hi h0 => by
    rcases (h7 i hi).2 with z | z <;> omega
  have ok : ∀ s1, agM st s1 → (runOK s1 np n (fun q => ((st.1 (95 + 5 * q) 5).toInt).toNat) (fun q => ((st.1 (95 + 5 * q) 4).toInt).toNat) (fun q => ((st.1 (95 + 5 * q) 6).toInt).toNat) x k ↔ runOKx st np n x k) ∧ (runOKx st np n x k → mkof s1 (mgv s1 0).toNat = xkof st (xgv st 0).toNat) := by
    intro s1 ag
    unfold runOK runOKx
    by_cases c : isS np x
    · obtain ⟨w1, w2, w3⟩ := pg_n h5 c
      have hb := (h5.2.2.2 (qI x) (by show x.toInt.toNat < np; omega)).1
      have hI6 : ((st.1 (95 + 5 * (qI x)) 4).toInt).toNat ≤ 6 := by have := hb.2.2.2.1; omega
      have e0 : givOK (xgv st) (xkof st) ((st.1 (95 + 5 * (qI x)) 4).toInt).toNat → mkof s1 (mgv s1 0).toNat = xkof st (xgv st 0).toNat := fun g => by
        rw [giv s1 ag 0 (by omega)]
        exact (rowv s1 ag _ (gvn 0 (by omega) (g.2 0 g.1).1)).1
      have eg : givOK (mgv s1) (mkof s1) ((st.1 (95 + 5 * (qI x)) 4).toInt).toNat ↔ givOK (xgv st) (xkof st) ((st.1 (95 + 5 * (qI x)) 4).toInt).toNat := by
        constructor
        · rintro ⟨g1, g2⟩
          refine ⟨g1, fun i hi => ?_⟩
          have a1 := g2 i hi
          have a0 := g2 0 g1
          rw [giv s1 ag i (by omega), giv s1 ag 0 (by omega)] at a1
          rw [giv s1 ag 0 (by omega)] at a0
          rw [(rowv s1 ag _ (gvn i (by omega) a1.1)).1, (rowv s1 ag _ (gvn 0 (by omega) a0.1)).1] at a1
          exact a1
        · rintro ⟨g1, g2⟩
          refine ⟨g1, fun i hi => ?_⟩
          have a1 := g2 i hi
          have a0 := g2 0 g1
          rw [giv s1 ag i (by omega), giv s1 ag 0 (by omega), (rowv s1 ag _ (gvn i (by omega) a1.1)).1, (rowv s1 ag _ (gvn 0 (by omega) a0.1)).1]
          exact a1
      dsimp only
      rw [w1]
      refine ⟨⟨?_, ?_⟩, fun q => e0 q.1.2⟩
      · rintro ⟨⟨q1, q2⟩, q3, q4⟩
        have g := eg.mp q2
        rw [e0 g] at q3
        exact ⟨⟨q1, g⟩, (al_same2 h2 _).mp ((alvM_same ag _).mp q3), q4⟩
      · rintro ⟨⟨q1, q2⟩, q3, q4⟩
        rw [e0 q2]
        exact ⟨⟨q1, eg.mpr q2⟩, (alvM_same ag _).mpr ((al_same2 h2 _).mpr q3), q4⟩
    · exact ⟨⟨fun q => absurd q.1.1.1 c, fun q => absurd q.1.1.1 c⟩, fun q => absurd q.1.1.1 c⟩
  have mw : ∀ u, agM st (sI u 31 18 0) → Mi l D cy 4 YX12_run [.ref 31, .int x, .int k, .int seed] u (runP (sI u 31 18 0) np n (gK st) (gA st) (gB st) (gU st) (fun q => ((st.1 (95 + 5 * q) 5).toInt).toNat) (fun q => ((st.1 (95 + 5 * q) 4).toInt).toNat) (fun q => ((st.1 (95 + 5 * q) 6).toInt).toNat) x k seed) := fun u ag =>
    w_run u _ rfl (mOK_same (mOK_of h2 h3) ag) (odd_same (oddM_of h2) ag) (fun i hi => by rw [giv _ ag i hi]; exact (h7 i hi).2) np (by rw [ag.1 31 19 (by omega)]; exact h5.2.2.1) h5.2.1 (mPg_all h2 h5 ag) x k seed
  refine Mi.mono (m_run st (xOK_of h2 h3) (fun i hi => (h7 i hi).2) (pOK_of h2 h5) x k seed) (fun r u q => ?_)
  by_cases c : runOKx st np n x k
  · have q1 := q.1 c
    have hx : isS np x := c.1.1.1
    have hq : qI x < np := by show x.toInt.toNat < np; omega
    obtain ⟨w1, w2, w3⟩ := pg_n h5 hx
    have hb := (h5.2.2.2 (qI x) hq).1
    have hm := (h5.2.2.2 (qI x) hq).2
    have hI6 : ((st.1 (95 + 5 * (qI x)) 4).toInt).toNat ≤ 6 := by have := hb.2.2.2.1; omega
    have hg := c.1.2
    have v0 : (xgv st 0).toNat < n := gvn 0 (by omega) (hg.2 0 hg.1).1
    obtain ⟨⟨⟨i0, hi0, e0⟩, -⟩, -⟩ := h3.2.2.2 _ v0
    have ei : (xkof st (xgv st 0).toNat).toNat = i0 := by
      unfold xkof
      rw [e0, nI_toInt (by have := h2.2.1.2.1; omega)]
      rfl
    rw [ei] at q1
    have hkey := (h2.2.2 i0 hi0).1
    have ht13 : 2 ≤ (st.1 0 0).toInt ∧ (st.1 0 0).toInt ≤ 13 := by rw [(t_of h2).1]; exact ⟨by have := h2.1.2.1; omega, by have := h2.1.2.2.1; omega⟩
    have hwk : wksOK (st.1 0 0).toInt ((st.1 (95 + 5 * (qI x)) 4).toInt) (gK st (qI x)) (gA st (qI x)) (gB st (qI x)) ((st.1 (95 + 5 * (qI x)) 5).toInt).toNat := by
      rw [(t_of h2).1]
      intro w hw
      exact hb.2.2.2.2.2.2.1 w (by omega)
    have hin : ∀ j : Nat, 40 ≤ j → (j : Int) < 40 + (st.1 (95 + 5 * (qI x)) 4).toInt → (xgv st (j - 40)).toNat < n := fun j j1 j2 => gvn _ (by omega) (hg.2 (j - 40) (by omega)).1
    have hrg := rnF_rg (K := gK st (qI x)) (A := gA st (qI x)) (B := gB st (qI x)) (t := (st.1 0 0).toInt) (lay := k.toInt) (seed := seed) (s := (inSl (xcof st) (xgv st), inSl (xbof st) (xgv st))) hkey ht13 hwk (fun j j1 j2 => by
      show (0 ≤ (if j < 40 then 0 else xcof st (xgv st (j - 40)).toNat) ∧ (if j < 40 then 0 else xcof st (xgv st (j - 40)).toNat) < 100000000) ∧ 0 ≤ (if j < 40 then 0 else xbof st (xgv st (j - 40)).toNat) ∧ (if j < 40 then 0 else xbof st (xgv st (j - 40)).toNat) ≤ 1000000
      rw [if_neg (by omega), if_neg (by omega)]
      obtain ⟨-, ⟨b1, b2, -⟩, ⟨c1, c2, -⟩, -⟩ := h3.2.2.2 _ (hin j j1 j2)
      exact ⟨⟨c1, c2⟩, b1, b2⟩) (by have := hb.2.1; omega) ((st.1 (95 + 5 * (qI x)) 5).toInt).toNat (Nat.le_refl _)
    have mod2 : ∀ s1, agM st s1 → ∀ r2 u2, runP s1 np n (gK st) (gA st) (gB st) (gU st) (fun q => ((st.1 (95 + 5 * q) 5).toInt).toNat) (fun q => ((st.1 (95 + 5 * q) 4).toInt).toNat) (fun q => ((st.1 (95 + 5 * q) 6).toInt).toNat) x k seed r2 u2 → match xrun st i0 (qI x) k.toInt seed with
        | none => r2 = -2 ∧ ∃ f g c d, u2 = rS s1 f g c d
        | some s => r2 = nI n ∧ ∃ f g c d, selR (rS s1 f g c d) n (nI i0) (outC (kP st i0) (kQ st i0) (kB st i0) (st.1 0 0).toInt seed (gU st (qI x)) s.1) (outB (fB st i0) (gU st (qI x)) s.2) ((st.1 (95 + 5 * (qI x)) 6).toInt).toNat u2 := by
      intro s1 ag r2 u2 q2
      have q3 := q2.1 ((ok s1 ag).1.mpr c)
      rw [(ok s1 ag).2 c, ei] at q3
      obtain ⟨k1, k2⟩ := keyM2 h2 ag hi0
      have k3 : (s1.1 65 i0).toInt = kB st i0 := by rw [ag.1 65 i0 (by omega)]; exact (key_eq h2 hi0).2.2
      rw [k1, k2, k3, base_m h2 ag, fB_m h2 ag hi0] at q3
      unfold mrun at q3
      rw [k1, k2, k3, base_m h2 ag] at q3
      have hcg := rnF_cong (K := gK st (qI x)) (A := gA st (qI x)) (B := gB st (qI x)) (p := kP st i0) (q := kQ st i0) (b := kB st i0) (lay := k.toInt) (seed := seed) (s := (inSl (mcof s1) (mgv s1), inSl (mbof s1) (mgv s1))) (s2 := (inSl (xcof st) (xgv st), inSl (xbof st) (xgv st))) hwk (fun j j1 j2 => by
        show (if j < 40 then 0 else mcof s1 (mgv s1 (j - 40)).toNat) = (if j < 40 then 0 else xcof st (xgv st (j - 40)).toNat) ∧ (if j < 40 then 0 else mbof s1 (mgv s1 (j - 40)).toNat) = (if j < 40 then 0 else xbof st (xgv st (j - 40)).toNat)
        rw [if_neg (by omega), if_neg (by omega), if_neg (by omega), if_neg (by omega), giv s1 ag _ (by omega)]
        exact (rowv s1 ag _ (hin j j1 j2)).2) ((st.1 (95 + 5 * (qI x)) 5).toInt).toNat (Nat.le_refl _)
      unfold xrun
      rcases hcg with ⟨z1, z2⟩ | ⟨a9, b9, z1, z2, z3⟩
      · rw [z1] at q3
        rw [z2]
        exact q3
      · rw [z1] at q3
        rw [z2]
        obtain ⟨q4, f, g, c8, d8, q5⟩ := q3
        refine ⟨q4, f, g, c8, d8, selR_cong (fun j hj => ?_) q5⟩
        unfold outC outB
        by_cases cu : gU st (qI x) j < 0
        · rw [if_pos cu, if_pos cu, if_pos cu, if_pos cu]
          exact ⟨rfl, rfl⟩
        · rw [if_neg cu, if_neg cu, if_neg cu, if_neg cu]
          refine z3 _ ?_
          rcases hb.2.2.2.2.2.2.2 j (by omega) with z | z
          · rcases z with z | z
            · exact Or.inl (by unfold gU; omega)
            · exact Or.inr (by unfold gU; omega)
          · exact absurd z.2 cu
    cases ex : xrun st i0 (qI x) k.toInt seed with
    | none =>
      rw [ex] at q1
      obtain ⟨rfl, f, g, rfl⟩ := q1
      have hs : scr st (sR (sR st 25 f) 26 g) := (scr_R st 25 f (by omega)).trans (scr_R _ 26 g (by omega))
      have ag := agM_scr (hs.trans (scr_thr _ 0))
      refine Mi.mono (mw _ ag) (fun r2 u2 q2 => ?_)
      have q3 := mod2 _ ag r2 u2 q2
      rw [ex] at q3
      obtain ⟨rfl, f2, g2, c2, d2, rfl⟩ := q3
      refine ⟨rfl, (h.scr ((hs.trans (scr_thr _ 0)).trans ?_)).E⟩
      exact ((scr_LR _ 73 f2 (by omega)).trans (scr_LR _ 74 g2 (by omega))).trans (scr_mk _ _ _)
    | some s =>
      rw [ex] at q1
      obtain ⟨rfl, f, g, q1⟩ := q1
      have hs : ch (pR n) qR st (sR (sR st 25 f) 26 g) := ((ch.refl _ _ st).R _ (fun j => by omega)).R _ (fun j => by omega)
      have hc1 : ch (pR n) qR st u := addR_ch hs (fun a j q => by omega) (by omega) q1
      have hcm : ch (fun a j => (17 ≤ a ∧ a ≤ 21) ∨ (25 ≤ a ∧ a ≤ 26) ∨ (a = 31 ∧ j = 18)) (fun _ => False) st (sI u 31 18 0) := (addR_ch (((ch.refl _ _ st).R _ (fun j => by omega)).R _ (fun j => by omega)) (fun a j q => by omega) (by omega) q1).I _ (by omega)
      have ag := agM_ch hcm (fun a j q => by omega) (fun a q => False.elim q)
      refine Mi.mono (mw _ ag) (fun r2 u2 q2 => ?_)
      have q3 := mod2 _ ag r2 u2 q2
      rw [ex] at q3
      obtain ⟨rfl, f2, g2, c2, d2, q4⟩ := q3
      refine ⟨rfl, ?_⟩
      have h17 : (sR (sR st 25 f) 26 g).1 17 4 = nI n := h3.1
      obtain ⟨r17, rr⟩ := addR_rows h17 q1
      have s0 : scr (sI u 31 18 0) (rS (sI u 31 18 0) f2 g2 c2 d2) := ((scr_LR _ 73 f2 (by omega)).trans (scr_LR _ 74 g2 (by omega))).trans (scr_mk _ _ _)
      have h58 : (rS (sI u 31 18 0) f2 g2 c2 d2).1 31 58 = nI n := by rw [s0.1 31 58 (by omega), ag.1 31 58 (by omega)]; exact h3.2.2.1
      obtain ⟨r58, rl, rs⟩ := selR_rows h58 q4
      have hc2 : ch (pR n) qR st (rS (sI u 31 18 0) f2 g2 c2 d2) := (hc1.I (k := 31) (i := 18) 0 (by omega)).S s0 (fun a j q => by omega) (fun a q => by omega)
      have hc3 := selR_ch hc2 (fun a j q => by omega) (by omega) (by omega) (by omega) q4
      have hback : ∀ a j, 17 ≤ a ∧ a ≤ 21 → u2.1 a j = u.1 a j := fun a j ha => by
        rw [(selR_ch (P := fun a i => a = 67 ∨ a = 70 ∨ a = 31) (Q := fun a => a = 68 ∨ a = 69) (ch.refl _ _ _) (fun a j q => by omega) (by omega) (by omega) (by omega) q4).1 a j (by omega), s0.1 a j (by omega), sI_1, if_neg (by omega)]
      have hsr := hrg s ex
      have vals : ∀ j, j < ((st.1 (95 + 5 * (qI x)) 6).toInt).toNat → (0 ≤ outC (kP st i0) (kQ st i0) (kB st i0) (st.1 0 0).toInt seed (gU st (qI x)) s.1 j ∧ outC (kP st i0) (kQ st i0) (kB st i0) (st.1 0 0).toInt seed (gU st (qI x)) s.1 j < 100000000) ∧ 0 ≤ outB (fB st i0) (gU st (qI x)) s.2 j ∧ outB (fB st i0) (gU st (qI x)) s.2 j ≤ 1000000 := fun j hj => by
        unfold outC outB
        by_cases cu : gU st (qI x) j < 0
        · rw [if_pos cu, if_pos cu]
          exact ⟨frs_rng hkey _, fB_rng2 h2 hi0⟩
        · rw [if_neg cu, if_neg cu]
          refine hsr _ ?_
          rcases hb.2.2.2.2.2.2.2 j (by omega) with z | z
          · rcases z with z | z
            · exact Or.inl (by unfold gU; omega)
            · exact Or.inr (by unfold gU; omega)
          · exact absurd z.2 cu
      refine (Rel_rows h (m := ((st.1 (95 + 5 * (qI x)) 6).toInt).toNat) c.2.2 hc3 (fun j hj => ?_) (by rw [hback 17 4 (by omega)]; exact r17) r58 (fun a ha1 ha2 => ?_)).E
      · rw [(rl j hj).1, (rl j hj).2, s0.2 68 (by omega), s0.2 69 (by omega), ag.2 68 (by omega), ag.2 69 (by omega)]
        exact ⟨rfl, rfl⟩
      · obtain ⟨j, rfl⟩ : ∃ j, a = n + j := ⟨a - n, by omega⟩
        obtain ⟨y1, y2, y3, y4⟩ := rr j (by omega)
        obtain ⟨z1, z2, z3, z4⟩ := rs j (by omega)
        obtain ⟨v1, v2⟩ := vals j (by omega)
        unfold B3r
        rw [hback 18 _ (by omega), hback 19 _ (by omega), hback 20 _ (by omega), hback 21 _ (by omega), y1, y2, y3, y4, z1, z2, z3, z4]
        exact ⟨⟨⟨i0, hi0, rfl⟩, rfl⟩, ⟨v2.1, v2.2, rfl⟩, ⟨v1.1, v1.2, rfl⟩, rfl⟩
  · obtain ⟨rfl, e⟩ := q.2 c
    rw [e]
    have ag := agM_scr (scr_thr st 0)
    refine Mi.mono (mw _ ag) (fun r2 u2 q2 => ?_)
    obtain ⟨rfl, e2⟩ := q2.2 (fun z => c ((ok _ ag).1.mp z))
    rw [e2]
    exact ⟨rfl, (h.scr (scr_thr _ _)).E⟩
end PRUN
