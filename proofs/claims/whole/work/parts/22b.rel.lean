/-! THE LAW'S INVARIANT: class and model side by side, in blocks -/
def agI (fp : Nat → Nat → Prop) (st u : St) : Prop := ∀ a j, fp a j → u.1 a j = st.1 a j
def agL (fp : Nat → Prop) (st u : St) : Prop := ∀ a, fp a → u.2 a = st.2 a
abbrev fp1 (a j : Nat) : Prop := (a = 1 ∧ j = 1) ∨ a = 2 ∨ (a = 31 ∧ j = 1) ∨ a = 32
def B1 (st : St) (nt : Nat) : Prop := st.1 1 1 = nI nt ∧ nt ≤ 2000 ∧ st.1 31 1 = nI nt ∧ ∀ i, i < nt → st.1 2 i = st.1 32 i
abbrev fp2 (a j : Nat) : Prop := (a = 0 ∧ (j = 0 ∨ j = 7)) ∨ ((a = 24 ∨ a = 10 ∨ a = 14) ∧ j = 0) ∨ (a = 31 ∧ (j = 17 ∨ j = 53)) ∨ (63 ≤ a ∧ a ≤ 66) ∨ (83 ≤ a ∧ a ≤ 94 ∧ a % 3 = 2)
def B2k (st : St) (i : Nat) : Prop := keyAt st i ∧ kP st i % 2 = 1 ∧ (st.1 63 i = st.1 (83 + 3 * i) 0 ∧ st.1 64 i = st.1 (83 + 3 * i) 1 ∧ st.1 65 i = st.1 (83 + 3 * i) 2) ∧ (st.1 (83 + 3 * i) 3 = 0 ↔ ¬ st.1 66 i = 0)
def B2 (st : St) (t nk : Nat) : Prop := (st.1 0 0 = nI t ∧ 2 ≤ t ∧ t ≤ 13 ∧ st.1 24 0 = nI t ∧ st.1 10 0 = nI t ∧ st.1 14 0 = nI t ∧ st.1 31 17 = nI t) ∧ (st.1 0 7 = nI nk ∧ nk ≤ 4 ∧ st.1 31 53 = nI nk) ∧ ∀ i, i < nk → B2k st i
abbrev fp3 (a j : Nat) : Prop := (a = 17 ∧ j = 4) ∨ (18 ≤ a ∧ a ≤ 21) ∨ (a = 31 ∧ j = 58) ∨ a = 67 ∨ a = 70
abbrev fl3 (a : Nat) : Prop := a = 68 ∨ a = 69
def B3r (st : St) (nk a : Nat) : Prop := ((∃ i, i < nk ∧ st.1 18 a = nI i) ∧ st.1 67 a = st.1 18 a) ∧ (0 ≤ (st.1 20 a).toInt ∧ (st.1 20 a).toInt ≤ 1000000 ∧ (st.2 69 a).toInt = (st.1 20 a).toInt) ∧ (0 ≤ (st.1 19 a).toInt ∧ (st.1 19 a).toInt < 100000000 ∧ (st.2 68 a).toInt = (st.1 19 a).toInt) ∧ st.1 70 a = st.1 21 a
def B3 (st : St) (nk n : Nat) : Prop := st.1 17 4 = nI n ∧ n ≤ 60 ∧ st.1 31 58 = nI n ∧ ∀ a, a < n → B3r st nk a
abbrev fp4 (a _j : Nat) : Prop := a = 78 ∨ a = 79 ∨ (84 ≤ a ∧ a ≤ 94 ∧ a % 3 ≠ 2)
abbrev fl4 (a : Nat) : Prop := a = 80
def B4i (st : St) (nk i : Nat) : Prop := (st.1 78 i = st.1 (84 + 3 * i) 1 ∧ st.1 79 i = st.1 (84 + 3 * i) 2) ∧ (∀ j, 1 ≤ j → j < 7 → mptY st i j = ptY st i j) ∧ ptOK st i (pN st i) (pKn st i) ∧ (0 < pN st i → 1 ≤ pKn st i) ∧ (nk ≤ i → pN st i = 0)
def B4 (st : St) (nk : Nat) : Prop := ∀ i, i < 4 → B4i st nk i
abbrev fp5 (a j : Nat) : Prop := (a = 0 ∧ j = 10) ∨ (a = 31 ∧ j = 19) ∨ (39 ≤ a ∧ a ≤ 45) ∨ (95 ≤ a ∧ a ≤ 114)
def B5q (st : St) (t q : Nat) : Prop := pgOK (t : Int) st q ∧ mPg (t : Int) st q (gK st q) (gA st q) (gB st q) (gU st q) ((st.1 (95 + 5 * q) 5).toInt).toNat ((st.1 (95 + 5 * q) 4).toInt).toNat ((st.1 (95 + 5 * q) 6).toInt).toNat
def B5 (st : St) (t np : Nat) : Prop := st.1 0 10 = nI np ∧ np ≤ 4 ∧ st.1 31 19 = nI np ∧ ∀ q, q < np → B5q st t q
abbrev fp6 (a j : Nat) : Prop := (a = 29 ∧ j < 16) ∨ (95 ≤ a ∧ a ≤ 114)
def dfN (st : St) (t q r : Nat) : Nat := fb_ct (difB st (t : Int) q r) ((t : Int) ^ ((st.1 (95 + 5 * q) 4).toInt).toNat).toNat
def B6 (st : St) (t np : Nat) : Prop := ∀ a b, a < 4 → b < 4 → st.1 29 (4 * a + b) = -1 ∨ (a < np ∧ b < np ∧ (st.1 29 (4 * a + b)).toInt = (dfN st t a b : Int))
abbrev fp7 (a _j : Nat) : Prop := a = 72 ∨ a = 23
def B7 (st : St) (n : Nat) : Prop := ∀ i, i < 6 → st.1 72 i = st.1 23 i ∧ (xgv st i = -1 ∨ (0 ≤ xgv st i ∧ xgv st i < (n : Int)))
abbrev fp8 (a j : Nat) : Prop := (a = 0 ∧ j = 15) ∨ (a = 31 ∧ j = 65)
def B8 (st : St) : Prop := st.1 31 65 = st.1 0 15 ∧ 0 ≤ (st.1 0 15).toInt ∧ (st.1 0 15).toInt ≤ 10000
abbrev fp9 (a j : Nat) : Prop := (a = 0 ∧ j = 5) ∨ (a = 31 ∧ j = 16)
def B9 (st : St) : Prop := st.1 31 16 = st.1 0 5
def Rel (st : St) (t nk n np nt : Nat) : Prop := B1 st nt ∧ B2 st t nk ∧ B3 st nk n ∧ B4 st nk ∧ B5 st t np ∧ B6 st t np ∧ B7 st n ∧ B8 st ∧ B9 st ∧ kyOK st
def RelE (st : St) : Prop := ∃ t nk n np nt, Rel st t nk n np nt
theorem B1.same {st u : St} {nt : Nat} (h : B1 st nt) (e : agI fp1 st u) : B1 u nt := by
  obtain ⟨h1, h2, h3, h4⟩ := h
  refine ⟨by rw [e 1 1 (by omega)]; exact h1, h2, by rw [e 31 1 (by omega)]; exact h3, fun i hi => ?_⟩
  rw [e 2 i (by omega), e 32 i (by omega)]
  exact h4 i hi
theorem B2k.same {st u : St} {i : Nat} (hi : i < 4) (h : B2k st i) (e : agI fp2 st u) : B2k u i := by
  unfold B2k keyAt kP at *
  rw [e (83 + 3 * i) 0 (by omega), e (83 + 3 * i) 1 (by omega), e (83 + 3 * i) 2 (by omega), e (83 + 3 * i) 3 (by omega), e 63 i (by omega), e 64 i (by omega), e 65 i (by omega), e 66 i (by omega)]
  exact h
theorem B2.same {st u : St} {t nk : Nat} (h : B2 st t nk) (e : agI fp2 st u) : B2 u t nk := by
  obtain ⟨⟨h1, h2, h3, h4, h5, h6, h7⟩, ⟨h8, h9, h10⟩, h11⟩ := h
  exact ⟨⟨by rw [e 0 0 (by omega)]; exact h1, h2, h3, by rw [e 24 0 (by omega)]; exact h4, by rw [e 10 0 (by omega)]; exact h5, by rw [e 14 0 (by omega)]; exact h6, by rw [e 31 17 (by omega)]; exact h7⟩, ⟨by rw [e 0 7 (by omega)]; exact h8, h9, by rw [e 31 53 (by omega)]; exact h10⟩, fun i hi => (h11 i hi).same (by omega) e⟩
theorem B3r.same {st u : St} {nk a : Nat} (h : B3r st nk a) (e : agI fp3 st u) (el : agL fl3 st u) : B3r u nk a := by
  unfold B3r at *
  rw [e 18 a (by omega), e 19 a (by omega), e 20 a (by omega), e 21 a (by omega), e 67 a (by omega), e 70 a (by omega), el 68 (by omega), el 69 (by omega)]
  exact h
theorem B3.same {st u : St} {nk n : Nat} (h : B3 st nk n) (e : agI fp3 st u) (el : agL fl3 st u) : B3 u nk n := by
  obtain ⟨h1, h2, h3, h4⟩ := h
  exact ⟨by rw [e 17 4 (by omega)]; exact h1, h2, by rw [e 31 58 (by omega)]; exact h3, fun a ha => (h4 a ha).same e el⟩
theorem B4i.same {st u : St} {nk i : Nat} (hi : i < 4) (h : B4i st nk i) (e : agI fp4 st u) (el : agL fl4 st u) : B4i u nk i := by
  unfold B4i mptY ptY ptOK pN pKn at *
  have e5 : u.1 (85 + 3 * i) = st.1 (85 + 3 * i) := funext (fun j => e _ j (by omega))
  rw [e (84 + 3 * i) 1 (by omega), e (84 + 3 * i) 2 (by omega), e5, e 78 i (by omega), e 79 i (by omega), el 80 (by omega)]
  exact h
theorem B4.same {st u : St} {nk : Nat} (h : B4 st nk) (e : agI fp4 st u) (el : agL fl4 st u) : B4 u nk := fun i hi => (h i hi).same hi e el
theorem pg_rows {st u : St} {q : Nat} (hq : q < 4) (e : ∀ a j, 95 ≤ a ∧ a ≤ 114 → u.1 a j = st.1 a j) : u.1 (95 + 5 * q) = st.1 (95 + 5 * q) ∧ u.1 (96 + 5 * q) = st.1 (96 + 5 * q) ∧ u.1 (97 + 5 * q) = st.1 (97 + 5 * q) ∧ u.1 (98 + 5 * q) = st.1 (98 + 5 * q) ∧ u.1 (99 + 5 * q) = st.1 (99 + 5 * q) := ⟨funext (fun j => e _ j (by omega)), funext (fun j => e _ j (by omega)), funext (fun j => e _ j (by omega)), funext (fun j => e _ j (by omega)), funext (fun j => e _ j (by omega))⟩
theorem B5q.same {st u : St} {t q : Nat} (hq : q < 4) (h : B5q st t q) (e : agI fp5 st u) : B5q u t q := by
  obtain ⟨r1, r2, r3, r4, r5⟩ := pg_rows (st := st) (u := u) hq (fun a j ha => e a j (by omega))
  have rr : ∀ a, 39 ≤ a ∧ a ≤ 45 → u.1 a = st.1 a := fun a ha => funext (fun j => e a j (by omega))
  unfold B5q pgOK mPg gK gA gB gU at *
  rw [r1, r2, r3, r4, r5, rr 39 (by omega), rr 40 (by omega), rr 41 (by omega), rr 42 (by omega), rr 43 (by omega), rr 44 (by omega), rr 45 (by omega)]
  exact h
theorem B5.same {st u : St} {t np : Nat} (h : B5 st t np) (e : agI fp5 st u) : B5 u t np := by
  obtain ⟨h1, h2, h3, h4⟩ := h
  exact ⟨by rw [e 0 10 (by omega)]; exact h1, h2, by rw [e 31 19 (by omega)]; exact h3, fun q hq => (h4 q hq).same (by omega) e⟩
theorem dfN_same {st u : St} {t a b : Nat} (ha : a < 4) (hb : b < 4) (e : ∀ a j, 95 ≤ a ∧ a ≤ 114 → u.1 a j = st.1 a j) : dfN u t a b = dfN st t a b := by
  obtain ⟨r1, r2, r3, r4, r5⟩ := pg_rows ha e
  obtain ⟨q1, q2, q3, q4, q5⟩ := pg_rows hb e
  unfold dfN difB gK gA gB
  rw [r1, r2, r3, r4, r5, q1, q2, q3, q4, q5]
theorem B6.same {st u : St} {t np : Nat} (h : B6 st t np) (e : agI fp6 st u) : B6 u t np := by
  intro a b ha hb
  rw [e 29 (4 * a + b) (by omega), dfN_same ha hb (fun a j ha => e a j (by omega))]
  exact h a b ha hb
theorem B7.same {st u : St} {n : Nat} (h : B7 st n) (e : agI fp7 st u) : B7 u n := by
  intro i hi
  unfold xgv
  rw [e 72 i (by omega), e 23 i (by omega)]
  exact h i hi
theorem B8.same {st u : St} (h : B8 st) (e : agI fp8 st u) : B8 u := by
  unfold B8
  rw [e 31 65 (by omega), e 0 15 (by omega)]
  exact h
theorem B9.same {st u : St} (h : B9 st) (e : agI fp9 st u) : B9 u := by
  unfold B9
  rw [e 31 16 (by omega), e 0 5 (by omega)]
  exact h
theorem ky_same {st u : St} (h : kyOK st) (e : agL (fun a => a = 38) st u) : kyOK u := by
  intro k hk
  rw [e 38 rfl]
  exact h k hk
/-- what no one looks at later -/
abbrev scI (a j : Nat) : Prop := (25 ≤ a ∧ a ≤ 28) ∨ (a = 31 ∧ j = 18) ∨ (75 ≤ a ∧ a ≤ 77) ∨ a = 81 ∨ a = 82
abbrev scL (a : Nat) : Prop := a = 30 ∨ a = 31 ∨ a = 71 ∨ a = 73 ∨ a = 74
def scr (st u : St) : Prop := (∀ a j, ¬ scI a j → u.1 a j = st.1 a j) ∧ ∀ a, ¬ scL a → u.2 a = st.2 a
theorem scr.refl (st : St) : scr st st := ⟨fun _ _ _ => rfl, fun _ _ => rfl⟩
theorem scr.trans {a b c : St} (h : scr a b) (h2 : scr b c) : scr a c := ⟨fun k j q => (h2.1 k j q).trans (h.1 k j q), fun k q => (h2.2 k q).trans (h.2 k q)⟩
theorem scr_thr (st : St) (x : Int32) : scr st (sI st 31 18 x) := ⟨fun a j q => by rw [sI_1, if_neg (by omega)], fun _ _ => rfl⟩
theorem sR_11 (st : St) (k : Nat) (f : Nat → Int32) (a j : Nat) : (sR st k f).1 a j = if a = k then f j else st.1 a j := by
  show (if a = k then f else st.1 a) j = _
  split <;> rfl
theorem scr_R (st : St) (k : Nat) (f : Nat → Int32) (h : (25 ≤ k ∧ k ≤ 28) ∨ (75 ≤ k ∧ k ≤ 77) ∨ k = 81 ∨ k = 82) : scr st (sR st k f) := ⟨fun a j q => by rw [sR_11, if_neg (by omega)], fun _ _ => rfl⟩
theorem scr_mk (st : St) (x y : Int64) : scr st (mkS st x y) := ⟨fun _ _ _ => rfl, fun a q => by unfold mkS; rw [sL_row (by omega), sL_row (by omega)]⟩
theorem sLR_2 (st : St) (k : Nat) (f : Nat → Int64) (a : Nat) : (sLR st k f).2 a = if a = k then f else st.2 a := rfl
theorem scr_LR (st : St) (k : Nat) (f : Nat → Int64) (h : k = 71 ∨ k = 73 ∨ k = 74) : scr st (sLR st k f) := ⟨fun _ _ _ => rfl, fun a q => by rw [sLR_2, if_neg (by omega)]⟩
theorem Rel.scr {st u : St} {t nk n np nt : Nat} (h : Rel st t nk n np nt) (e : scr st u) : Rel u t nk n np nt := by
  obtain ⟨h1, h2, h3, h4, h5, h6, h7, h8, h9, h10⟩ := h
  exact ⟨h1.same (fun a j q => e.1 a j (by omega)), h2.same (fun a j q => e.1 a j (by omega)), h3.same (fun a j q => e.1 a j (by omega)) (fun a q => e.2 a (by omega)), h4.same (fun a j q => e.1 a j (by omega)) (fun a q => e.2 a (by omega)), h5.same (fun a j q => e.1 a j (by omega)), h6.same (fun a j q => e.1 a j (by omega)), h7.same (fun a j q => e.1 a j (by omega)), h8.same (fun a j q => e.1 a j (by omega)), h9.same (fun a j q => e.1 a j (by omega)), ky_same h10 (fun a q => e.2 a (by omega))⟩
theorem Rel.E {st : St} {t nk n np nt : Nat} (h : Rel st t nk n np nt) : RelE st := ⟨t, nk, n, np, nt, h⟩
/-! what the contracts ask -/
theorem xOK_of {st : St} {t nk n : Nat} (h2 : B2 st t nk) (h3 : B3 st nk n) : xOK st nk n := by
  obtain ⟨⟨a1, a2, a3, a4, a5, a6, a7⟩, ⟨a8, a9, a10⟩, a11⟩ := h2
  obtain ⟨b1, b2, b3, b4⟩ := h3
  have ht : (st.1 0 0).toInt = t := by rw [a1, nI_toInt (by omega)]
  exact ⟨a8, a9, b1, b2, ⟨by omega, by omega⟩, fun i hi => (a11 i hi).1, fun a ha => (b4 a ha).1.1, fun a ha => ⟨(b4 a ha).2.1.1, (b4 a ha).2.1.2.1⟩⟩
theorem mOK_of {st : St} {t nk n : Nat} (h2 : B2 st t nk) (h3 : B3 st nk n) : mOK st nk n := by
  obtain ⟨⟨a1, a2, a3, a4, a5, a6, a7⟩, ⟨a8, a9, a10⟩, a11⟩ := h2
  obtain ⟨b1, b2, b3, b4⟩ := h3
  have ht : (st.1 31 17).toInt = t := by rw [a7, nI_toInt (by omega)]
  refine ⟨a10, a9, b3, b2, ⟨by omega, by omega⟩, fun i hi => ?_, fun a ha => ?_, fun a ha => ?_, fun a ha => ?_⟩
  · obtain ⟨k1, k2, ⟨k3, k4, k5⟩, k6⟩ := a11 i hi
    unfold mkOK
    rw [k3, k4, k5]
    exact k1
  · obtain ⟨⟨⟨i, hi, e⟩, e2⟩, -⟩ := b4 a ha
    exact ⟨i, hi, e2.trans e⟩
  · obtain ⟨-, ⟨c1, c2, c3⟩, -⟩ := b4 a ha
    rw [c3]
    exact ⟨c1, c2⟩
  · obtain ⟨-, -, ⟨c1, c2, c3⟩, -⟩ := b4 a ha
    rw [c3]
    exact ⟨c1, c2⟩
theorem oddM_of {st : St} {t nk : Nat} (h2 : B2 st t nk) : oddM st nk := fun i hi => by
  obtain ⟨k1, k2, ⟨k3, k4, k5⟩, k6⟩ := h2.2.2 i hi
  rw [k3]
  exact k2
theorem t_of {st : St} {t nk : Nat} (h2 : B2 st t nk) : (st.1 0 0).toInt = (t : Int) ∧ (st.1 31 17).toInt = (t : Int) := ⟨by rw [h2.1.1, nI_toInt (by have := h2.1.2.2.1; omega)], by rw [h2.1.2.2.2.2.2.2, nI_toInt (by have := h2.1.2.2.1; omega)]⟩
theorem pOK_of {st : St} {t nk np : Nat} (h2 : B2 st t nk) (h5 : B5 st t np) : pOK st np := by
  have ht := (t_of h2).1
  have hb := h2.1
  refine ⟨h5.1, h5.2.1, ⟨by rw [ht]; omega, by rw [ht]; omega⟩, by rw [hb.2.2.2.1, hb.1], fun q hq => ?_⟩
  rw [ht]
  exact (h5.2.2.2 q hq).1
theorem ptsOK_of {st : St} {nk : Nat} (h4 : B4 st nk) (hk : nk ≤ 4) : ptsOK st nk := fun i hi => ⟨(h4 i (by omega)).2.2.1, (h4 i (by omega)).2.2.2.1⟩
theorem mN_of {st : St} {nk i : Nat} (h4 : B4 st nk) (hi : i < 4) : mN st i = pN st i ∧ mKn st i = pKn st i := by
  obtain ⟨⟨e1, e2⟩, -⟩ := h4 i hi
  unfold mN mKn pN pKn
  rw [e1, e2]
  exact ⟨rfl, rfl⟩
theorem mptsOK_of {st : St} {nk : Nat} (h4 : B4 st nk) (hk : nk ≤ 4) : mptsOK st nk := fun i hi => by
  obtain ⟨m1, m2⟩ := mN_of h4 (show i < 4 by omega)
  obtain ⟨⟨e1, e2⟩, hy, ⟨p1, p2, p3, p4, p5⟩, p6, -⟩ := h4 i (by omega)
  rw [m1, m2]
  refine ⟨⟨e1.trans p1, p2, e2.trans p3, p4, fun j h1 h7 => ?_⟩, p6⟩
  rw [hy j h1 h7]
  exact p5 j h1 h7
/-! the model's own cells -/
abbrev fpM (a j : Nat) : Prop := (a = 31 ∧ j ≠ 18) ∨ a = 32 ∨ (39 ≤ a ∧ a ≤ 45) ∨ (63 ≤ a ∧ a ≤ 67) ∨ a = 70 ∨ a = 72 ∨ a = 78 ∨ a = 79
abbrev flM (a : Nat) : Prop := a = 38 ∨ a = 68 ∨ a = 69 ∨ a = 80
def agM (st u : St) : Prop := agI fpM st u ∧ agL flM st u
theorem mOK_same {st u : St} {nk n : Nat} (h : mOK st nk n) (e : agM st u) : mOK u nk n := by
  have r : ∀ a, (63 ≤ a ∧ a ≤ 67) → u.1 a = st.1 a := fun a ha => funext (fun j => e.1 a j (by omega))
  unfold mOK mkOK at *
  rw [e.1 31 53 (by omega), e.1 31 58 (by omega), e.1 31 17 (by omega), r 63 (by omega), r 64 (by omega), r 65 (by omega), r 67 (by omega), e.2 68 (by omega), e.2 69 (by omega)]
  exact h
theorem odd_same {st u : St} {nk : Nat} (h : oddM st nk) (e : agM st u) : oddM u nk := fun i hi => by rw [e.1 63 i (by omega)]; exact h i hi
theorem mpts_same {st u : St} {nk : Nat} (h : mptsOK st nk) (e : agM st u) : mptsOK u nk := by
  have r : ∀ a, a = 78 ∨ a = 79 → u.1 a = st.1 a := fun a ha => funext (fun j => e.1 a j (by omega))
  unfold mptsOK mptOK mN mKn mptY at *
  rw [r 78 (by omega), r 79 (by omega), e.2 80 (by omega)]
  exact h
theorem mPg_same {st u : St} {t : Int} {q : Nat} {K A B U : Nat → Int} {W I O : Nat} (h : mPg t st q K A B U W I O) (e : agM st u) : mPg t u q K A B U W I O := by
  have r : ∀ a, (39 ≤ a ∧ a ≤ 45) → u.1 a = st.1 a := fun a ha => funext (fun j => e.1 a j (by omega))
  unfold mPg at *
  rw [r 39 (by omega), r 40 (by omega), r 41 (by omega), r 42 (by omega), r 43 (by omega), r 44 (by omega), r 45 (by omega)]
  exact h
theorem agM_scr {st u : St} (e : scr st u) : agM st u := ⟨fun a j q => e.1 a j (by omega), fun a q => e.2 a (by omega)⟩
theorem agM.trans {a b c : St} (h : agM a b) (h2 : agM b c) : agM a c := ⟨fun k j q => (h2.1 k j q).trans (h.1 k j q), fun k q => (h2.2 k q).trans (h.2 k q)⟩
/-- a call of the class and the same call of the model: one answer, and the invariant -/
def Pair (l : Launch) (D : va_G) (cy : Nat → ClassId) (d1 d2 : Nat) (Y1 Y2 : MY) (as : List Value) (st : St) : Prop := Mi l D cy d1 Y1 (.ref 0 :: as) st (fun r u => Mi l D cy d2 Y2 (.ref 31 :: as) u (fun r2 u2 => r2 = r ∧ RelE u2))
theorem i32 {x y : Int32} (h : x.toInt = y.toInt) : x = y := Int32.toInt_inj.mp h
theorem al_same2 {st : St} {t nk : Nat} (h2 : B2 st t nk) (x : Int) : alvM st x ↔ alvX st x := by
  have e1 : (st.1 31 53).toInt = (nk : Int) := by rw [h2.2.1.2.2, nI_toInt (by have := h2.2.1.2.1; omega)]
  have e2 : (st.1 0 7).toInt = (nk : Int) := by rw [h2.2.1.1, nI_toInt (by have := h2.2.1.2.1; omega)]
  unfold alvM alvX
  rw [e1, e2]
  constructor
  · rintro ⟨⟨q1, q2⟩, q3⟩
    exact ⟨⟨q1, q2⟩, fun z => ((h2.2.2 x.toNat (by omega)).2.2.2.mp z) q3⟩
  · rintro ⟨⟨q1, q2⟩, q3⟩
    exact ⟨⟨q1, q2⟩, Decidable.byContradiction (fun z => q3 ((h2.2.2 x.toNat (by omega)).2.2.2.mpr z))⟩
theorem alvM_same {st u : St} (e : agM st u) (x : Int) : alvM u x ↔ alvM st x := by
  unfold alvM
  have r : u.1 66 = st.1 66 := funext (fun j => e.1 66 j (by omega))
  rw [e.1 31 53 (by omega), r]
