/-! PAIRS: keys, rows -/
section PAIRD
variable {l : Launch} {D : va_G} {cy : Nat → ClassId} {st : St} {t nk n np nt : Nat}
theorem pr_key (h : Rel st t nk n np nt) (p0 q0 b0 : Int32) : Pair l D cy 1 1 YX11_key YX12_key [.int p0, .int q0, .int b0] st := by
  obtain ⟨h1, h2, h3, h4, h5, h6, h7, h8, h9, h10⟩ := id h
  have hk4 := h2.2.1.2.1
  refine Mi.mono (m_key st p0 q0 b0 nk h2.2.1.1 hk4) (fun r u q => ?_)
  by_cases c0 : nk < 4 ∧ goodKey p0.toInt q0.toInt b0.toInt
  · rw [if_pos c0] at q
    obtain ⟨rfl, rfl⟩ := q
    have hn := c0.1
    have e53 : (sI (sI (sI (sI (sI (sI st (83 + 3 * nk) 0 p0) (83 + 3 * nk) 1 q0) (83 + 3 * nk) 2 b0) (83 + 3 * nk) 3 1) 0 7 (nI (nk + 1))) 31 18 0).1 31 53 = nI nk := by
      rw [sI_1, if_neg (by omega), sI_1, if_neg (by omega), sI_row (by omega), sI_row (by omega), sI_row (by omega), sI_row (by omega)]
      exact h2.2.1.2.2
    refine Mi.mono (w_key _ _ rfl p0 q0 b0 nk e53 hk4) (fun r2 u2 q2 => ?_)
    rw [if_pos c0] at q2
    obtain ⟨rfl, rfl⟩ := q2
    refine ⟨rfl, ?_⟩
    generalize hu : keyM (sI (sI (sI (sI (sI (sI st (83 + 3 * nk) 0 p0) (83 + 3 * nk) 1 q0) (83 + 3 * nk) 2 b0) (83 + 3 * nk) 3 1) 0 7 (nI (nk + 1))) 31 18 0) nk p0 q0 b0 = u
    have hc : ch (fun a j => a = 83 + 3 * nk ∨ (a = 0 ∧ j = 7) ∨ (a = 31 ∧ (j = 18 ∨ j = 53)) ∨ ((63 ≤ a ∧ a ≤ 66) ∧ j = nk) ∨ (a = 78 ∧ j = nk)) (fun _ => False) st u := by
      rw [← hu]
      unfold keyM
      exact (((((((((((ch.refl _ _ st).I _ (by omega)).I _ (by omega)).I _ (by omega)).I _ (by omega)).I _ (by omega)).I _ (by omega)).I _ (by omega)).I _ (by omega)).I _ (by omega)).I _ (by omega)).I _ (by omega) |>.I _ (by omega)
    have hcl : ∀ j, u.1 (83 + 3 * nk) j = (sI (sI (sI (sI st (83 + 3 * nk) 0 p0) (83 + 3 * nk) 1 q0) (83 + 3 * nk) 2 b0) (83 + 3 * nk) 3 1).1 (83 + 3 * nk) j := fun j => by
      rw [← hu]
      unfold keyM
      rw [sI_row (by omega), sI_row (by omega), sI_row (by omega), sI_row (by omega), sI_row (by omega), sI_row (by omega), sI_row (by omega), sI_row (by omega)]
    have k0 : u.1 (83 + 3 * nk) 0 = p0 := by rw [hcl, sI_at, if_neg (by decide), sI_at, if_neg (by decide), sI_at, if_neg (by decide), sI_at, if_pos rfl]
    have k1 : u.1 (83 + 3 * nk) 1 = q0 := by rw [hcl, sI_at, if_neg (by decide), sI_at, if_neg (by decide), sI_at, if_pos rfl]
    have k2 : u.1 (83 + 3 * nk) 2 = b0 := by rw [hcl, sI_at, if_neg (by decide), sI_at, if_pos rfl]
    have k3 : u.1 (83 + 3 * nk) 3 = 1 := by rw [hcl, sI_at, if_pos rfl]
    have m0 : u.1 63 nk = p0 := by
      rw [← hu]; unfold keyM
      rw [sI_row (by decide), sI_row (by decide), sI_row (by decide), sI_row (by decide), sI_row (by decide), sI_at, if_pos rfl]
    have m1 : u.1 64 nk = q0 := by
      rw [← hu]; unfold keyM
      rw [sI_row (by decide), sI_row (by decide), sI_row (by decide), sI_row (by decide), sI_at, if_pos rfl]
    have m2 : u.1 65 nk = b0 := by
      rw [← hu]; unfold keyM
      rw [sI_row (by decide), sI_row (by decide), sI_row (by decide), sI_at, if_pos rfl]
    have m3 : u.1 66 nk = 0 := by
      rw [← hu]; unfold keyM
      rw [sI_row (by decide), sI_row (by decide), sI_at, if_pos rfl]
    have m4 : u.1 78 nk = 0 := by
      rw [← hu]; unfold keyM
      rw [sI_row (by decide), sI_at, if_pos rfl]
    have m5 : u.1 31 53 = nI (nk + 1) := by rw [← hu]; rfl
    have m6 : u.1 0 7 = nI (nk + 1) := by
      rw [← hu]; unfold keyM
      rw [sI_row (by decide), sI_row (by decide), sI_row (by decide), sI_row (by decide), sI_row (by decide), sI_row (by decide), sI_row (by decide)]
      rfl
    have m7 : st.1 78 nk = 0 := by
      obtain ⟨⟨e1, -⟩, -, ⟨p1, -⟩, -, p9⟩ := h4 nk hn
      rw [e1, p1, p9 (Nat.le_refl _)]
      rfl
    have ag4 : agI fp4 st u := fun a j q => by
      by_cases c : a = 78 ∧ j = nk
      · rw [c.1, c.2, m4, m7]
      · exact hc.1 a j (by omega)
    clear hu
    refine Rel.E (t := t) (nk := nk + 1) (n := n) (np := np) (nt := nt) ⟨h1.same (fun a j q => hc.1 a j (by omega)), ?_, ?_, ?_, h5.same (fun a j q => hc.1 a j (by omega)), h6.same (fun a j q => hc.1 a j (by omega)), h7.same (fun a j q => hc.1 a j (by omega)), h8.same (fun a j q => hc.1 a j (by omega)), h9.same (fun a j q => hc.1 a j (by omega)), ky_same h10 (fun a q => hc.2 a (fun z => z))⟩
    · obtain ⟨⟨a1, a2, a3, a4, a5, a6, a7⟩, -, a11⟩ := h2
      refine ⟨⟨by rw [hc.1 0 0 (by omega)]; exact a1, a2, a3, by rw [hc.1 24 0 (by omega)]; exact a4, by rw [hc.1 10 0 (by omega)]; exact a5, by rw [hc.1 14 0 (by omega)]; exact a6, by rw [hc.1 31 17 (by omega)]; exact a7⟩, ⟨m6, by omega, m5⟩, fun i hi => ?_⟩
      by_cases e : i = nk
      · subst e
        unfold B2k keyAt kP
        rw [k0, k1, k2, k3, m0, m1, m2, m3]
        obtain ⟨-, g1, g2, g3, g4, g5, g6, g7, g8, g9, g10, g11, g12⟩ := c0
        exact ⟨⟨g1, g2, g9, g10, g11, g12⟩, g3, ⟨rfl, rfl, rfl⟩, by decide⟩
      · have h9 := a11 i (by omega)
        unfold B2k keyAt kP at *
        rw [hc.1 (83 + 3 * i) 0 (by omega), hc.1 (83 + 3 * i) 1 (by omega), hc.1 (83 + 3 * i) 2 (by omega), hc.1 (83 + 3 * i) 3 (by omega), hc.1 63 i (by omega), hc.1 64 i (by omega), hc.1 65 i (by omega), hc.1 66 i (by omega)]
        exact h9
    · have h9 := h3.same (u := u) (fun a j q => hc.1 a j (by omega)) (fun a q => hc.2 a (fun z => z))
      refine ⟨h9.1, h9.2.1, h9.2.2.1, fun a ha => ?_⟩
      obtain ⟨⟨⟨i, hi, e⟩, e2⟩, r⟩ := h9.2.2.2 a ha
      exact ⟨⟨⟨i, by omega, e⟩, e2⟩, r⟩
    · intro i hi
      obtain ⟨r1, r2, r3, r4, r5⟩ := (h4 i hi).same hi ag4 (fun a q => hc.2 a (fun z => z))
      exact ⟨r1, r2, r3, r4, fun q => r5 (by omega)⟩
  · rw [if_neg c0] at q
    obtain ⟨rfl, e⟩ := q
    rw [e]
    refine Mi.mono (w_key _ _ rfl p0 q0 b0 nk h2.2.1.2.2 hk4) (fun r2 u2 q2 => ?_)
    rw [if_neg c0] at q2
    rw [q2.2]
    exact ⟨q2.1, (h.scr (scr_thr _ _)).E⟩
theorem pr_dead (h : Rel st t nk n np nt) (x : Int32) : Pair l D cy 2 2 YX11_dead YX12_dead [.int x] st := by
  obtain ⟨h1, h2, h3, h4, h5, h6, h7, h8, h9, h10⟩ := id h
  have hk4 := h2.2.1.2.1
  have ek : (st.1 0 7).toInt = (nk : Int) := by rw [h2.2.1.1, nI_toInt (by omega)]
  have ek2 : (st.1 31 53).toInt = (nk : Int) := by rw [h2.2.1.2.2, nI_toInt (by omega)]
  refine Mi.mono (m_dead st x (by rw [ek]; omega)) (fun r u q => ?_)
  by_cases c0 : alvX st x.toInt
  · rw [if_pos c0] at q
    obtain ⟨rfl, rfl⟩ := q
    have hx : x.toInt.toNat < nk := by have := c0.1; rw [ek] at this; omega
    have hcc : ch (fun a j => a = 83 + 3 * x.toInt.toNat ∨ (a = 31 ∧ j = 18)) (fun _ => False) st (sI (sI st (83 + 3 * x.toInt.toNat) 3 0) 31 18 0) := ((ch.refl _ _ st).I _ (by omega)).I _ (by omega)
    have ag : agM st (sI (sI st (83 + 3 * x.toInt.toNat) 3 0) 31 18 0) := agM_ch hcc (fun a j q => by omega) (fun a q => False.elim q)
    refine Mi.mono (w_dead _ _ rfl x (by rw [ag.1 31 53 (by omega), ek2]; omega)) (fun r2 u2 q2 => ?_)
    rw [if_pos ((alvM_same ag x.toInt).mpr ((al_same2 h2 x.toInt).mpr c0))] at q2
    obtain ⟨rfl, rfl⟩ := q2
    refine ⟨rfl, ?_⟩
    generalize hu : sI (sI (sI st (83 + 3 * x.toInt.toNat) 3 0) 31 18 0) 66 x.toInt.toNat 1 = u
    have hc : ch (fun a j => (a = 83 + 3 * x.toInt.toNat ∧ j = 3) ∨ (a = 31 ∧ j = 18) ∨ (a = 66 ∧ j = x.toInt.toNat)) (fun _ => False) st u := by
      rw [← hu]
      exact (((ch.refl _ _ st).I _ (by omega)).I _ (by omega)).I _ (by omega)
    have k3 : u.1 (83 + 3 * x.toInt.toNat) 3 = 0 := by rw [← hu, sI_row (by omega), sI_row (by omega), sI_at, if_pos rfl]
    have m3 : u.1 66 x.toInt.toNat = 1 := by rw [← hu, sI_at, if_pos rfl]
    clear hu
    refine Rel.E (t := t) (nk := nk) (n := n) (np := np) (nt := nt) ⟨h1.same (fun a j q => hc.1 a j (by omega)), ?_, h3.same (fun a j q => hc.1 a j (by omega)) (fun a q => hc.2 a (fun z => z)), h4.same (fun a j q => hc.1 a j (by omega)) (fun a q => hc.2 a (fun z => z)), h5.same (fun a j q => hc.1 a j (by omega)), h6.same (fun a j q => hc.1 a j (by omega)), h7.same (fun a j q => hc.1 a j (by omega)), h8.same (fun a j q => hc.1 a j (by omega)), h9.same (fun a j q => hc.1 a j (by omega)), ky_same h10 (fun a q => hc.2 a (fun z => z))⟩
    obtain ⟨⟨a1, a2, a3, a4, a5, a6, a7⟩, ⟨a8, a9, a10⟩, a11⟩ := h2
    refine ⟨⟨by rw [hc.1 0 0 (by omega)]; exact a1, a2, a3, by rw [hc.1 24 0 (by omega)]; exact a4, by rw [hc.1 10 0 (by omega)]; exact a5, by rw [hc.1 14 0 (by omega)]; exact a6, by rw [hc.1 31 17 (by omega)]; exact a7⟩, ⟨by rw [hc.1 0 7 (by omega)]; exact a8, a9, by rw [hc.1 31 53 (by omega)]; exact a10⟩, fun i hi => ?_⟩
    have h9 := a11 i hi
    unfold B2k keyAt kP at *
    rw [hc.1 (83 + 3 * i) 0 (by omega), hc.1 (83 + 3 * i) 1 (by omega), hc.1 (83 + 3 * i) 2 (by omega), hc.1 63 i (by omega), hc.1 64 i (by omega), hc.1 65 i (by omega)]
    refine ⟨h9.1, h9.2.1, h9.2.2.1, ?_⟩
    by_cases e : i = x.toInt.toNat
    · rw [e, k3, m3]
      decide
    · rw [hc.1 (83 + 3 * i) 3 (by omega), hc.1 66 i (by omega)]
      exact h9.2.2.2
  · rw [if_neg c0] at q
    obtain ⟨rfl, e⟩ := q
    rw [e]
    have ag := agM_scr (scr_thr st 0)
    refine Mi.mono (w_dead _ _ rfl x (by rw [ag.1 31 53 (by omega), ek2]; omega)) (fun r2 u2 q2 => ?_)
    rw [if_neg (fun z => c0 ((al_same2 h2 x.toInt).mp ((alvM_same ag x.toInt).mp z)))] at q2
    rw [q2.2]
    exact ⟨q2.1, (h.scr (scr_thr _ _)).E⟩
/-! rows more -/
abbrev pR (n : Nat) (a j : Nat) : Prop := (18 ≤ a ∧ a ≤ 21 ∧ n ≤ j) ∨ (a = 17 ∧ j = 4) ∨ ((a = 67 ∨ a = 70) ∧ n ≤ j) ∨ (a = 31 ∧ j = 58) ∨ scI a j
abbrev qR (a : Nat) : Prop := a = 68 ∨ a = 69 ∨ scL a
theorem Rel_rows (h : Rel st t nk n np nt) {m : Nat} (hm : n + m ≤ 60) {u : St} (e : ch (pR n) qR st u) (e2 : ∀ j, j < n → u.2 68 j = st.2 68 j ∧ u.2 69 j = st.2 69 j) (c1 : u.1 17 4 = nI (n + m)) (c2 : u.1 31 58 = nI (n + m)) (hr : ∀ a, n ≤ a → a < n + m → B3r u nk a) : Rel u t nk (n + m) np nt := by
  obtain ⟨h1, h2, h3, h4, h5, h6, h7, h8, h9, h10⟩ := h
  refine ⟨h1.same (fun a j q => e.1 a j (by omega)), h2.same (fun a j q => e.1 a j (by omega)), ⟨c1, hm, c2, fun a ha => ?_⟩, h4.same (fun a j q => e.1 a j (by omega)) (fun a q => e.2 a (by omega)), h5.same (fun a j q => e.1 a j (by omega)), h6.same (fun a j q => e.1 a j (by omega)), fun i hi => ?_, h8.same (fun a j q => e.1 a j (by omega)), h9.same (fun a j q => e.1 a j (by omega)), ky_same h10 (fun a q => e.2 a (by omega))⟩
  · by_cases c : a < n
    · have h9 := h3.2.2.2 a c
      unfold B3r at *
      rw [e.1 18 a (by omega), e.1 19 a (by omega), e.1 20 a (by omega), e.1 21 a (by omega), e.1 67 a (by omega), e.1 70 a (by omega), (e2 a c).1, (e2 a c).2]
      exact h9
    · exact hr a (by omega) ha
  · have h9 := h7 i hi
    unfold xgv at *
    rw [e.1 72 i (by omega), e.1 23 i (by omega)]
    exact ⟨h9.1, h9.2.elim Or.inl (fun q => Or.inr ⟨q.1, by omega⟩)⟩
theorem addX_ch {P : Nat → Nat → Prop} {Q : Nat → Prop} {u : St} {m : Nat} (h : ch P Q st u) (hp : ∀ a, 18 ≤ a ∧ a ≤ 21 → P a m) (h17 : P 17 4) (k c b d : Int32) : ch P Q st (addX u m k c b d) := by
  unfold addX
  exact ((((h.I _ (hp 18 (by omega))).I _ (hp 19 (by omega))).I _ (hp 20 (by omega))).I _ (hp 21 (by omega))).I _ h17
theorem selM_ch {P : Nat → Nat → Prop} {Q : Nat → Prop} {u : St} {m : Nat} (h : ch P Q st u) (h67 : P 67 m) (h70 : P 70 m) (h58 : P 31 58) (q68 : Q 68) (q69 : Q 69) (k d : Int32) (c b : Int64) : ch P Q st (selM u m k c b d) := by
  unfold selM
  exact ((((h.I _ h67).L _ q68).L _ q69).I _ h70).I _ h58
theorem sel_at (u : St) (m : Nat) (k d : Int32) (c b : Int64) : (selM u m k c b d).1 67 m = k ∧ (selM u m k c b d).1 70 m = d ∧ (selM u m k c b d).1 31 58 = nI (m + 1) ∧ (selM u m k c b d).2 68 m = c ∧ (selM u m k c b d).2 69 m = b ∧ ∀ j, j ≠ m → (selM u m k c b d).2 68 j = u.2 68 j ∧ (selM u m k c b d).2 69 j = u.2 69 j := by
  unfold selM
  refine ⟨?_, ?_, rfl, ?_, ?_, fun j hj => ⟨?_, ?_⟩⟩
  · rw [sI_row (by decide), sI_row (by decide), sL_1, sL_1, sI_at, if_pos rfl]
  · rw [sI_row (by decide), sI_at, if_pos rfl]
  · show (sL (sL (sI u 67 m k) 68 m c) 69 m b).2 68 m = c
    rw [sL_row (by decide), sL_at, if_pos rfl]
  · show (sL (sL (sI u 67 m k) 68 m c) 69 m b).2 69 m = b
    rw [sL_at, if_pos rfl]
  · show (sL (sL (sI u 67 m k) 68 m c) 69 m b).2 68 j = u.2 68 j
    rw [sL_row (by decide), sL_at, if_neg hj]
    rfl
  · show (sL (sL (sI u 67 m k) 68 m c) 69 m b).2 69 j = u.2 69 j
    rw [sL_at, if_neg hj, sL_row (by decide)]
    rfl
theorem add_at (u : St) (m : Nat) (k c b d : Int32) : (addX u m k c b d).1 18 m = k ∧ (addX u m k c b d).1 19 m = c ∧ (addX u m k c b d).1 20 m = b ∧ (addX u m k c b d).1 21 m = d ∧ (addX u m k c b d).1 17 4 = nI (m + 1) := by
  unfold addX
  refine ⟨?_, ?_, ?_, ?_, rfl⟩
  · rw [sI_row (by decide), sI_row (by decide), sI_row (by decide), sI_row (by decide), sI_at, if_pos rfl]
  · rw [sI_row (by decide), sI_row (by decide), sI_row (by decide), sI_at, if_pos rfl]
  · rw [sI_row (by decide), sI_row (by decide), sI_at, if_pos rfl]
  · rw [sI_row (by decide), sI_at, if_pos rfl]
theorem pairA {d1 d2 : Nat} {Y1 Y2 : MY} {as : List Value} (h : Rel st t nk n np nt) {c : Prop} [Decidable c] {k : Nat} {d v : Int32} {C Bd : Int} (hk : c → k < nk ∧ n < 60 ∧ (0 ≤ C ∧ C < 100000000) ∧ 0 ≤ Bd ∧ Bd ≤ 1000000)
    (hM : Mi l D cy d1 Y1 (.ref 0 :: as) st (fun r u => if c then adX st n k d C Bd r u else r = v ∧ u = st))
    (hW : ∀ u, agM st (sI u 31 18 0) → Mi l D cy d2 Y2 (.ref 31 :: as) u (fun r2 u2 => if c then adM (sI u 31 18 0) n k d C Bd r2 u2 else r2 = v ∧ u2 = sI u 31 18 0)) : Pair l D cy d1 d2 Y1 Y2 as st := by
  refine Mi.mono hM (fun r u q => ?_)
  by_cases c0 : c
  · rw [if_pos c0] at q
    obtain ⟨hk1, hk2, hC, hB⟩ := hk c0
    obtain ⟨rfl, cc, bb, ec, eb, rfl⟩ := q
    have hc0 : ch (pR n) qR st (addX st n (nI k) cc bb d) := addX_ch (ch.refl _ _ st) (fun a ha => by omega) (by omega) _ _ _ _
    have hc1 : ch (pR n) qR st (sI (addX st n (nI k) cc bb d) 31 18 0) := hc0.I _ (by omega)
    have hcm : ch (fun a j => (17 ≤ a ∧ a ≤ 21) ∨ (a = 31 ∧ j = 18)) (fun _ => False) st (sI (addX st n (nI k) cc bb d) 31 18 0) := (addX_ch (ch.refl _ _ st) (fun a ha => by omega) (by omega) _ _ _ _).I _ (by omega)
    refine Mi.mono (hW _ (agM_ch hcm (fun a j q => by omega) (fun a q => False.elim q))) (fun r2 u2 q2 => ?_)
    rw [if_pos c0] at q2
    obtain ⟨rfl, c2, b2, ec2, eb2, x, y, rfl⟩ := q2
    refine ⟨rfl, ?_⟩
    have hc2 : ch (pR n) qR st (mkS (sI (addX st n (nI k) cc bb d) 31 18 0) x y) := hc1.S (scr_mk _ _ _) (fun a j q => by omega) (fun a q => by omega)
    have hc3 := selM_ch hc2 (m := n) (by omega) (by omega) (by omega) (by omega) (by omega) (nI k) d c2 b2
    obtain ⟨s1, s2, s3, s4, s5, s6⟩ := sel_at (mkS (sI (addX st n (nI k) cc bb d) 31 18 0) x y) n (nI k) d c2 b2
    obtain ⟨a1, a2, a3, a4, a5⟩ := add_at st n (nI k) cc bb d
    have back : ∀ a, 17 ≤ a ∧ a ≤ 21 → (selM (mkS (sI (addX st n (nI k) cc bb d) 31 18 0) x y) n (nI k) c2 b2 d).1 a = (addX st n (nI k) cc bb d).1 a := fun a ha => by
      rw [selM_1 _ _ _ _ _ _ (by omega) (by omega) (by omega)]
      show (sI (addX st n (nI k) cc bb d) 31 18 0).1 a = _
      rw [sI_row (by omega)]
    refine (Rel_rows h (m := 1) (by omega) hc3 (fun j hj => ?_) (by rw [back 17 (by omega)]; exact a5) s3 (fun a ha1 ha2 => ?_)).E
    · obtain ⟨z1, z2⟩ := s6 j (by omega)
      rw [z1, z2]
      exact ⟨rfl, rfl⟩
    · have ea : a = n := by omega
      subst ea
      unfold B3r
      rw [back 18 (by omega), back 19 (by omega), back 20 (by omega), back 21 (by omega), a1, a2, a3, a4, s1, s2, s4, s5, ec, eb, ec2, eb2]
      exact ⟨⟨⟨k, hk1, rfl⟩, rfl⟩, ⟨hB.1, hB.2, rfl⟩, ⟨hC.1, hC.2, rfl⟩, rfl⟩
  · rw [if_neg c0] at q
    obtain ⟨rfl, e⟩ := q
    rw [e]
    refine Mi.mono (hW st (agM_scr (scr_thr st 0))) (fun r2 u2 q2 => ?_)
    rw [if_neg c0] at q2
    rw [q2.2]
    exact ⟨q2.1, (h.scr (scr_thr _ _)).E⟩
theorem frs_rng {p q b tt m : Int} (hk : kOK p q b) (seed : Int32) : 0 ≤ freshF p q b tt m seed ∧ freshF p q b tt m seed < 100000000 := by
  have h := pq_rng hk
  unfold freshF maskF
  exact ⟨Int.emod_nonneg _ (by omega), Int.lt_of_lt_of_le (Int.emod_lt_of_pos _ (by omega)) (by omega)⟩
theorem fB_rng2 (h2 : B2 st t nk) {i : Nat} (hi : i < nk) : 0 ≤ fB st i ∧ fB st i ≤ 1000000 := by
  refine fB_rngX (h2.2.2 i hi).1 ?_
  rw [show tOK (st.1 0 0) = (2 ≤ (st.1 0 0).toInt ∧ (st.1 0 0).toInt ≤ 13) from rfl, (t_of h2).1]
  exact ⟨by have := h2.1.2.1; omega, by have := h2.1.2.2.1; omega⟩
theorem fB_m (h2 : B2 st t nk) {s1 : St} (ag : agM st s1) {i : Nat} (hi : i < nk) : fBm s1 i = fB st i := by
  obtain ⟨k1, k2, k3⟩ := key_eq h2 hi
  show (s1.1 31 17).toInt * (s1.1 65 i).toInt + (s1.1 31 17).toInt - 1 = (st.1 0 0).toInt * (st.1 (83 + 3 * i) 2).toInt + (st.1 0 0).toInt - 1
  rw [ag.1 31 17 (by omega), ag.1 65 i (by omega), k3, (t_of h2).1, (t_of h2).2]
theorem fC_m (h2 : B2 st t nk) {s1 : St} (ag : agM st s1) {i : Nat} (hi : i < nk) (m : Int) (seed : Int32) : fCm s1 i m seed = fC st i m seed := by
  obtain ⟨k1, k2, k3⟩ := key_eq h2 hi
  show freshF (s1.1 63 i).toInt (s1.1 64 i).toInt (s1.1 65 i).toInt (s1.1 31 17).toInt m seed = freshF (st.1 (83 + 3 * i) 0).toInt (st.1 (83 + 3 * i) 1).toInt (st.1 (83 + 3 * i) 2).toInt (st.1 0 0).toInt m seed
  rw [ag.1 63 i (by omega), ag.1 64 i (by omega), ag.1 65 i (by omega), ag.1 31 17 (by omega), show (st.1 63 i).toInt = _ from k1, k2, k3, (t_of h2).1, (t_of h2).2]
theorem base_m (h2 : B2 st t nk) {s1 : St} (ag : agM st s1) : (s1.1 31 17).toInt = (st.1 0 0).toInt := by rw [ag.1 31 17 (by omega), (t_of h2).1, (t_of h2).2]
theorem if_of {α : Type} {p q : Prop} [Decidable p] [Decidable q] (h : p ↔ q) (a b : α) : (if p then a else b) = if q then a else b := by
  by_cases c : p
  · rw [if_pos c, if_pos (h.mp c)]
  · rw [if_neg c, if_neg (fun z => c (h.mpr z))]
theorem pr_mask (h : Rel st t nk n np nt) (k m0 seed : Int32) : Pair l D cy 4 4 YX11_mask YX12_mask [.int k, .int m0, .int seed] st := by
  obtain ⟨h1, h2, h3, h4, h5, h6, h7, h8, h9, h10⟩ := id h
  have ek : (st.1 0 7).toInt = (nk : Int) := by rw [h2.2.1.1, nI_toInt (by have := h2.2.1.2.1; omega)]
  have kk : alvX st k.toInt → k.toInt.toNat < nk := fun q => by have := q.1; rw [ek] at this; omega
  refine pairA h (fun q => ⟨kk q.1.1, by have := h3.2.1; have := q.2; omega, frs_rng (h2.2.2 _ (kk q.1.1)).1 seed, fB_rng2 h2 (kk q.1.1)⟩) (m_mask st (xOK_of h2 h3) k m0 seed) (fun u ag => ?_)
  refine Mi.mono (w_mask u _ rfl (mOK_same (mOK_of h2 h3) ag) k m0 seed) (fun r2 u2 q2 => ?_)
  have ec : ((alvM (sI u 31 18 0) k.toInt ∧ 0 ≤ m0.toInt ∧ m0.toInt < ((sI u 31 18 0).1 31 17).toInt) ∧ n ≠ 60) ↔ ((alvX st k.toInt ∧ 0 ≤ m0.toInt ∧ m0.toInt < (st.1 0 0).toInt) ∧ n ≠ 60) := by
    rw [base_m h2 ag, alvM_same ag, al_same2 h2]
  rw [if_of ec] at q2
  by_cases c : (alvX st k.toInt ∧ 0 ≤ m0.toInt ∧ m0.toInt < (st.1 0 0).toInt) ∧ n ≠ 60
  · rw [if_pos c] at q2 ⊢
    rw [fC_m h2 ag (kk c.1.1), fB_m h2 ag (kk c.1.1)] at q2
    exact q2
  · rw [if_neg c] at q2 ⊢
    exact q2
theorem rowM (h3 : B3 st nk n) {s1 : St} (ag : agM st s1) {a : Int32} (ha : isS n a) : mK s1 a = rK st a ∧ mC s1 a = rC st a ∧ mB s1 a = rB st a := by
  obtain ⟨e1, e2, e3, -⟩ := row_eq h3 ha
  refine ⟨?_, ?_, ?_⟩
  · rw [← e1]; show (s1.1 67 _).toInt.toNat = _; rw [ag.1 67 _ (by omega)]
  · rw [← e2]; show (s1.2 68 _).toInt = _; rw [ag.2 68 (by omega)]
  · rw [← e3]; show (s1.2 69 _).toInt = _; rw [ag.2 69 (by omega)]
theorem keyM2 (h2 : B2 st t nk) {s1 : St} (ag : agM st s1) {i : Nat} (hi : i < nk) : mP s1 i = kP st i ∧ (s1.1 64 i).toInt = kQ st i := by
  obtain ⟨k1, k2, k3⟩ := key_eq h2 hi
  refine ⟨?_, ?_⟩
  · rw [← k1]; show (s1.1 63 i).toInt = _; rw [ag.1 63 i (by omega)]
  · rw [← k2, ag.1 64 i (by omega)]
theorem pr_work (h : Rel st t nk n np nt) (k a b : Int32) : Pair l D cy 3 3 YX11_work YX12_work [.int k, .int a, .int b] st := by
  obtain ⟨h1, h2, h3, h4, h5, h6, h7, h8, h9, h10⟩ := id h
  refine pairA h (fun q => ?_) (m_work st (xOK_of h2 h3) k a b) (fun u ag => ?_)
  · obtain ⟨⟨-, qa, qb, -, -⟩, q9⟩ := q
    obtain ⟨-, -, -, e4⟩ := row_eq h3 qa
    have hpq := pq_rng (h2.2.2 _ e4).1
    have hw := workF_rng (k.toInt + 1) (rC st a) (rC st b) (m := (st.1 (83 + 3 * rK st a) 0).toInt * (st.1 (83 + 3 * rK st a) 1).toInt) (by omega)
    exact ⟨e4, by have := h3.2.1; omega, ⟨hw.1, by omega⟩, bound_rng _ _ _ (h3.2.2.2 a.toInt.toNat (by omega)).2.1.1⟩
  · refine Mi.mono (w_work u _ rfl (mOK_same (mOK_of h2 h3) ag) k a b) (fun r2 u2 q2 => ?_)
    by_cases ca : isS n a
    · by_cases cb : isS n b
      · obtain ⟨a1, a2, a3⟩ := rowM h3 ag ca
        obtain ⟨b1, b2, b3⟩ := rowM h3 ag cb
        obtain ⟨k1, k2⟩ := keyM2 h2 ag (row_eq h3 ca).2.2.2
        rw [a1, b1, a2, b2, a3, b3, k1, k2] at q2
        have ec : (((0 ≤ k.toInt ∧ k.toInt ≤ 2) ∧ isS n a ∧ isS n b ∧ rK st a = rK st b ∧ alvM (sI u 31 18 0) (rK st a : Int)) ∧ n ≠ 60) ↔ (((0 ≤ k.toInt ∧ k.toInt ≤ 2) ∧ isS n a ∧ isS n b ∧ rK st a = rK st b ∧ alvX st (rK st a : Int)) ∧ n ≠ 60) := by
          rw [alvM_same ag, al_same2 h2]
        rw [if_of ec] at q2
        exact q2
      · rw [if_neg (fun z => cb z.1.2.2.1)] at q2 ⊢
        exact q2
    · rw [if_neg (fun z => ca z.1.2.1)] at q2 ⊢
      exact q2
theorem pr_plain (h : Rel st t nk n np nt) (k a z : Int32) : Pair l D cy 3 3 YX11_plain YX12_plain [.int k, .int a, .int z] st := by
  obtain ⟨h1, h2, h3, h4, h5, h6, h7, h8, h9, h10⟩ := id h
  refine pairA h (fun q => ?_) (m_plain st (xOK_of h2 h3) k a z) (fun u ag => ?_)
  · obtain ⟨⟨qa, -, -⟩, q9⟩ := q
    obtain ⟨-, -, -, e4⟩ := row_eq h3 qa
    have hpq := pq_rng (h2.2.2 _ e4).1
    have hw := workF_rng (k.toInt + 1) (rC st a) z.toInt (m := (st.1 (83 + 3 * rK st a) 0).toInt * (st.1 (83 + 3 * rK st a) 1).toInt) (by omega)
    exact ⟨e4, by have := h3.2.1; omega, ⟨hw.1, by omega⟩, bound_rng _ _ _ (h3.2.2.2 a.toInt.toNat (by omega)).2.1.1⟩
  · refine Mi.mono (w_plain u _ rfl (mOK_same (mOK_of h2 h3) ag) k a z) (fun r2 u2 q2 => ?_)
    by_cases ca : isS n a
    · obtain ⟨a1, a2, a3⟩ := rowM h3 ag ca
      obtain ⟨k1, k2⟩ := keyM2 h2 ag (row_eq h3 ca).2.2.2
      rw [a1, a2, a3, k1, k2, base_m h2 ag] at q2
      have ec : ((isS n a ∧ alvM (sI u 31 18 0) (rK st a : Int) ∧ plainWk (st.1 0 0).toInt k.toInt z.toInt) ∧ n ≠ 60) ↔ ((isS n a ∧ alvX st (rK st a : Int) ∧ plainWk (st.1 0 0).toInt k.toInt z.toInt) ∧ n ≠ 60) := by
        rw [alvM_same ag, al_same2 h2]
      rw [if_of ec] at q2
      exact q2
    · rw [if_neg (fun z => ca z.1.1)] at q2 ⊢
      exact q2
theorem pr_anew (h : Rel st t nk n np nt) (a k seed : Int32) : Pair l D cy 4 4 YX11_anew YX12_anew [.int a, .int k, .int seed] st := by
  obtain ⟨h1, h2, h3, h4, h5, h6, h7, h8, h9, h10⟩ := id h
  have ek : (st.1 0 7).toInt = (nk : Int) := by rw [h2.2.1.1, nI_toInt (by have := h2.2.1.2.1; omega)]
  have kk : alvX st k.toInt → k.toInt.toNat < nk := fun q => by have := q.1; rw [ek] at this; omega
  refine pairA (c := (n ≠ 60 ∧ isS n a ∧ alvX st k.toInt ∧ alvX st (rK st a : Int)) ∧ ¬ (st.1 (83 + 3 * rK st a) 0).toInt ≤ 2 * rB st a) (k := k.toInt.toNat) (d := 6) (v := if n ≠ 60 ∧ isS n a ∧ alvX st k.toInt ∧ alvX st (rK st a : Int) then -2 else -1) (C := fC st k.toInt.toNat (noiseF (rC st a) (st.1 (83 + 3 * rK st a) 0).toInt % (st.1 0 0).toInt) seed) (Bd := fB st k.toInt.toNat) h (fun q => ⟨kk q.1.2.2.1, by have := h3.2.1; have := q.1.1; omega, frs_rng (h2.2.2 _ (kk q.1.2.2.1)).1 seed, fB_rng2 h2 (kk q.1.2.2.1)⟩) (Mi.mono (m_anew st (xOK_of h2 h3) a k seed) (fun r u q => ?_)) (fun u ag => ?_)
  · by_cases c : n ≠ 60 ∧ isS n a ∧ alvX st k.toInt ∧ alvX st (rK st a : Int)
    · rw [if_pos c] at q
      by_cases c2 : (st.1 (83 + 3 * rK st a) 0).toInt ≤ 2 * rB st a
      · rw [if_pos c2] at q
        rw [if_neg (fun z => z.2 c2), if_pos c]
        exact q
      · rw [if_neg c2] at q
        rw [if_pos ⟨c, c2⟩]
        exact q
    · rw [if_neg c] at q
      rw [if_neg (fun z => c z.1), if_neg c]
      exact q
  · refine Mi.mono (w_anew u _ rfl (mOK_same (mOK_of h2 h3) ag) (fun i hi => by rw [ag.1 63 i (by omega)]; exact oddM_of h2 i hi) a k seed) (fun r2 u2 q2 => ?_)
    by_cases ca : isS n a
    · obtain ⟨a1, a2, a3⟩ := rowM h3 ag ca
      obtain ⟨k1, k2⟩ := keyM2 h2 ag (row_eq h3 ca).2.2.2
      rw [a1, a2, a3, k1, base_m h2 ag] at q2
      have ec : (n ≠ 60 ∧ isS n a ∧ alvM (sI u 31 18 0) k.toInt ∧ alvM (sI u 31 18 0) (rK st a : Int)) ↔ (n ≠ 60 ∧ isS n a ∧ alvX st k.toInt ∧ alvX st (rK st a : Int)) := by
        rw [alvM_same ag, alvM_same ag, al_same2 h2, al_same2 h2]
      rw [if_of ec] at q2
      by_cases c : n ≠ 60 ∧ isS n a ∧ alvX st k.toInt ∧ alvX st (rK st a : Int)
      · rw [if_pos c] at q2
        by_cases c2 : (st.1 (83 + 3 * rK st a) 0).toInt ≤ 2 * rB st a
        · rw [if_pos c2] at q2
          rw [if_neg (fun z => z.2 c2), if_pos c]
          exact q2
        · rw [if_neg c2, fC_m h2 ag (kk c.2.2.1), fB_m h2 ag (kk c.2.2.1)] at q2
          rw [if_pos ⟨c, c2⟩]
          exact q2
      · rw [if_neg c] at q2
        rw [if_neg (fun z => c z.1), if_neg c]
        exact q2
    · rw [if_neg (fun z => ca z.2.1)] at q2
      rw [if_neg (fun z => ca z.1.2.1), if_neg (fun z => ca z.2.1)]
      exact q2
end PAIRD
