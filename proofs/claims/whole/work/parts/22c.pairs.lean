/-! PAIRS: calls that change nothing -/
theorem nI_back {x : Int32} (h : 0 ≤ x.toInt) : nI x.toInt.toNat = x := by
  obtain ⟨j, hj, e⟩ := nI_of (x := x) (fun z => by rw [fa_lt] at z; simp only [Int32.reduceToInt] at z; omega)
  rw [e, nI_toInt hj]
  rfl
section PAIR
variable {l : Launch} {D : va_G} {cy : Nat → ClassId} {st : St} {t nk n np nt : Nat}
theorem row_eq (h3 : B3 st nk n) {a : Int32} (ha : isS n a) : mK st a = rK st a ∧ mC st a = rC st a ∧ mB st a = rB st a ∧ rK st a < nk := by
  obtain ⟨⟨⟨i, hi, e⟩, e2⟩, ⟨-, -, b⟩, ⟨-, -, c⟩, -⟩ := h3.2.2.2 a.toInt.toNat (by omega)
  have h60 := h3.2.1
  refine ⟨by show (st.1 67 _).toInt.toNat = (st.1 18 _).toInt.toNat; rw [e2], c, b, ?_⟩
  show (st.1 18 _).toInt.toNat < nk
  by_cases h4 : i < 2 ^ 31
  · rw [e, nI_toInt h4]; omega
  · rw [e]
    have : (nI i).toInt < 2 ^ 31 := Int32.toInt_lt _
    omega
theorem key_eq (h2 : B2 st t nk) {i : Nat} (hi : i < nk) : mP st i = kP st i ∧ (st.1 64 i).toInt = kQ st i ∧ (st.1 65 i).toInt = kB st i := by
  obtain ⟨-, -, ⟨k3, k4, k5⟩, -⟩ := h2.2.2 i hi
  show (st.1 63 i).toInt = _ ∧ _
  rw [k3, k4, k5]
  exact ⟨rfl, rfl, rfl⟩
theorem opM_X (h2 : B2 st t nk) (h3 : B3 st nk n) (a : Int32) : opM st n a = opX st n a := by
  unfold opM opX
  by_cases c : isS n a
  · rw [if_pos c, if_pos c]
    obtain ⟨e1, e2, e3, e4⟩ := row_eq h3 c
    obtain ⟨k1, k2, k3⟩ := key_eq h2 e4
    have ea := al_same2 h2 (rK st a : Int)
    rw [e1, e2, e3, k1, (t_of h2).1, (t_of h2).2]
    by_cases c2 : alvX st (rK st a : Int)
    · rw [if_pos c2, if_pos (ea.mpr c2)]
    · rw [if_neg c2, if_neg (fun q => c2 (ea.mp q))]
  · rw [if_neg c, if_neg c]
theorem pr_place (h : Rel st t nk n np nt) : Pair l D cy 0 0 YX11_place YX12_place [] st := by
  refine Mi.mono (m_place st) (fun r u q => ?_)
  obtain ⟨e, q⟩ := q
  rw [e]
  refine Mi.mono (w_place st _ rfl) (fun r2 u2 q2 => ?_)
  obtain ⟨e2, q2⟩ := q2
  rw [e2, q2, q]
  exact ⟨h.2.2.2.2.2.2.2.2.1, (h.scr (scr_thr _ _)).E⟩
theorem pr_lot (h : Rel st t nk n np nt) (a b c : Int32) : Pair l D cy 2 2 YX11_lot YX12_lot [.int a, .int b, .int c] st := by
  refine Mi.mono (m_lot st a b c) (fun r u q => ?_)
  obtain ⟨e, q⟩ := q
  rw [e]
  refine Mi.mono (w_lot st _ rfl a b c) (fun r2 u2 q2 => ?_)
  obtain ⟨e2, q2⟩ := q2
  rw [e2]
  exact ⟨i32 (q2.trans q.symm), (h.scr (scr_thr _ _)).E⟩
theorem pr_noise (h : Rel st t nk n np nt) (a : Int32) : Pair l D cy 2 1 YX11_noise YX12_noise [.int a] st := by
  obtain ⟨h1, h2, h3, -⟩ := id h
  have ag := agM_scr (scr_thr st 0)
  refine Mi.mono (m_noise st (xOK_of h2 h3) a) (fun r u q => ?_)
  obtain ⟨e, q⟩ := q
  rw [e]
  refine Mi.mono (w_noise st _ rfl (mOK_same (mOK_of h2 h3) ag) (odd_same (oddM_of h2) ag) a) (fun r2 u2 q2 => ?_)
  obtain ⟨e2, q2⟩ := q2
  rw [e2]
  refine ⟨i32 ?_, (h.scr (scr_thr _ _)).E⟩
  have q3 : r2.toInt = if isS n a then noiseF (mC st a) (mP st (mK st a)) else -1000000 := q2
  rw [q3, q]
  by_cases c : isS n a
  · obtain ⟨e1, e2, e3, e4⟩ := row_eq h3 c
    rw [if_pos c, if_pos c, e1, e2, (key_eq h2 e4).1]
  · rw [if_neg c, if_neg c]
theorem pr_open (h : Rel st t nk n np nt) (a : Int32) : Pair l D cy 4 3 YX11_open YX12_open [.int a] st := by
  obtain ⟨h1, h2, h3, -⟩ := id h
  have ag := agM_scr (scr_thr st 0)
  refine Mi.mono (m_open st (xOK_of h2 h3) a) (fun r u q => ?_)
  obtain ⟨e, q⟩ := q
  rw [e]
  refine Mi.mono (w_open st _ rfl (mOK_same (mOK_of h2 h3) ag) (odd_same (oddM_of h2) ag) a) (fun r2 u2 q2 => ?_)
  obtain ⟨e2, q2⟩ := q2
  rw [e2]
  refine ⟨i32 ?_, (h.scr (scr_thr _ _)).E⟩
  have q3 : r2.toInt = opM st n a := q2
  rw [q3, q, opM_X h2 h3]
theorem pr_works (h : Rel st t nk n np nt) (x : Int32) : Pair l D cy 1 1 YX11_works YX12_works [.int x] st := by
  obtain ⟨h1, h2, h3, h4, h5, -⟩ := id h
  refine Mi.mono (m_works st (pOK_of h2 h5) x) (fun r u q => ?_)
  obtain ⟨e, q⟩ := q
  rw [e]
  refine Mi.mono (w_works st _ rfl np h5.2.2.1 h5.2.1 x) (fun r2 u2 q2 => ?_)
  obtain ⟨e2, q2⟩ := q2
  rw [e2]
  refine ⟨?_, (h.scr (scr_thr _ _)).E⟩
  have q3 : r2 = if isS np x then st.1 42 (qI x) else -1 := q2
  rw [q3, q]
  by_cases c : isS np x
  · have hb := h5.2.2.2 (qI x) (by show x.toInt.toNat < np; omega)
    rw [if_pos c, if_pos c, hb.2.1]
    exact nI_back hb.1.1
  · rw [if_neg c, if_neg c]
theorem pr_step (h : Rel st t nk n np nt) (x k w : Int32) : Pair l D cy 3 1 YX11_step YX12_step [.int x, .int k, .int w] st := by
  obtain ⟨h1, h2, h3, h4, h5, -⟩ := id h
  refine Mi.mono (m_step st (pOK_of h2 h5) x k w) (fun r u q => ?_)
  obtain ⟨e, q⟩ := q
  rw [e]
  refine Mi.mono (w_step st _ rfl np h5.2.2.1 h5.2.1 (fun q hq => ?_) x k w) (fun r2 u2 q2 => ?_)
  · have hb := h5.2.2.2 q hq
    have e9 : (sI st 31 18 0).1 42 q = nI ((st.1 (95 + 5 * q) 5).toInt).toNat := hb.2.1
    have := hb.1.2.1
    have := hb.1.1
    rw [e9, nI_toInt (by omega)]
    omega
  obtain ⟨e2, q2⟩ := q2
  rw [e2]
  refine ⟨i32 ?_, (h.scr (scr_thr _ _)).E⟩
  have q3 : r2 = if (isS np x ∧ 0 ≤ k.toInt ∧ k.toInt < (st.1 42 (qI x)).toInt) ∧ 0 ≤ w.toInt ∧ w.toInt ≤ 2 then (if w.toInt = 0 then st.1 43 (40 * qI x + qI k) else if w.toInt = 1 then st.1 44 (40 * qI x + qI k) else st.1 45 (40 * qI x + qI k)) else -100 := q2
  rw [q3, q]
  unfold stepF
  by_cases c : isS np x
  · have hb := h5.2.2.2 (qI x) (by show x.toInt.toNat < np; omega)
    have hw0 := hb.1.1
    have hw1 := hb.1.2.1
    have e9 : (st.1 42 (qI x)).toInt = (st.1 (95 + 5 * (qI x)) 5).toInt := by rw [hb.2.1, nI_toInt (by omega)]; omega
    rw [e9]
    by_cases c2 : 0 ≤ k.toInt ∧ k.toInt < (st.1 (95 + 5 * (qI x)) 5).toInt
    · obtain ⟨m1, m2, m3⟩ := hb.2.2.2.2.2.2.2.1 (qI k) (by show k.toInt.toNat < _; omega)
      have cc : isS np x ∧ 0 ≤ k.toInt ∧ k.toInt < (st.1 (95 + 5 * (qI x)) 5).toInt := ⟨c, c2⟩
      rw [if_pos cc]
      by_cases c3 : 0 ≤ w.toInt ∧ w.toInt ≤ 2
      · rw [if_pos ⟨cc, c3⟩]
        by_cases w0 : w.toInt = 0
        · rw [if_pos w0, if_pos w0, m1]
          rfl
        by_cases w1 : w.toInt = 1
        · rw [if_neg w0, if_neg w0, if_pos w1, if_pos w1, m2]
          rfl
        · rw [if_neg w0, if_neg w0, if_neg w1, if_neg w1, if_pos (by omega), m3]
          rfl
      · rw [if_neg (fun z => c3 z.2), if_neg (by omega), if_neg (by omega), if_neg (by omega)]
        rfl
    · rw [if_neg (fun z => c2 z.1.2), if_neg (fun z => c2 z.2)]
      rfl
  · rw [if_neg (fun z => c z.1.1), if_neg (fun z => c z.1)]
    rfl
theorem pr_outs (h : Rel st t nk n np nt) (x k : Int32) : Pair l D cy 2 1 YX11_outs YX12_outs [.int x, .int k] st := by
  obtain ⟨h1, h2, h3, h4, h5, -⟩ := id h
  refine Mi.mono (m_outs st (pOK_of h2 h5) x k) (fun r u q => ?_)
  obtain ⟨e, q⟩ := q
  rw [e]
  refine Mi.mono (w_outs st _ rfl np h5.2.2.1 h5.2.1 (fun q hq => ?_) x k) (fun r2 u2 q2 => ?_)
  · have hb := h5.2.2.2 q hq
    have e9 : (sI st 31 18 0).1 40 q = nI ((st.1 (95 + 5 * q) 6).toInt).toNat := hb.2.2.2.1
    have := hb.1.2.2.2.2.1
    have := hb.1.2.2.2.2.2.1
    rw [e9, nI_toInt (by omega)]
    omega
  obtain ⟨e2, q2⟩ := q2
  rw [e2]
  refine ⟨i32 ?_, (h.scr (scr_thr _ _)).E⟩
  have q3 : r2 = if isS np x ∧ 0 ≤ k.toInt ∧ k.toInt < (st.1 40 (qI x)).toInt then st.1 41 (4 * qI x + qI k) else -100 := q2
  rw [q3, q]
  by_cases c : isS np x
  · have hb := h5.2.2.2 (qI x) (by show x.toInt.toNat < np; omega)
    have ho0 := hb.1.2.2.2.2.1
    have ho1 := hb.1.2.2.2.2.2.1
    have e9 : (st.1 40 (qI x)).toInt = (st.1 (95 + 5 * (qI x)) 6).toInt := by rw [hb.2.2.2.1, nI_toInt (by omega)]; omega
    rw [e9]
    by_cases c2 : 0 ≤ k.toInt ∧ k.toInt < (st.1 (95 + 5 * (qI x)) 6).toInt
    · rw [if_pos ⟨c, c2⟩, if_pos ⟨c, c2⟩]
      exact hb.2.2.2.2.2.2.2.2.1 (qI k) (by show k.toInt.toNat < _; omega)
    · rw [if_neg (fun z => c2 z.2), if_neg (fun z => c2 z.2)]
      rfl
  · rw [if_neg (fun z => c z.1), if_neg (fun z => c z.1)]
    rfl
theorem pr_checks (h : Rel st t nk n np nt) (a b c k : Int32) : Pair l D cy 1 1 YX11_checks YX12_checks [.int a, .int b, .int c, .int k] st := by
  refine Mi.mono (m_checks st a b c k) (fun r u q => ?_)
  obtain ⟨e, q⟩ := q
  rw [e]
  refine Mi.mono (w_checks st _ rfl a b c k) (fun r2 u2 q2 => ?_)
  obtain ⟨e2, q2⟩ := q2
  rw [e2]
  exact ⟨i32 (q2.trans q.symm), (h.scr (scr_thr _ _)).E⟩
theorem pr_part (h : Rel st t nk n np nt) (k j : Int32) : Pair l D cy 3 2 YX11_part YX12_part [.int k, .int j] st := by
  obtain ⟨h1, h2, h3, h4, h5, -⟩ := id h
  have ag := agM_scr (scr_thr st 0)
  have hk4 := h2.2.1.2.1
  refine Mi.mono (m_part st h2.2.1.1 hk4 (ptsOK_of h4 hk4) k j) (fun r u q => ?_)
  obtain ⟨e, q⟩ := q
  rw [e]
  refine Mi.mono (w_part st _ rfl (nk := nk) h2.2.1.2.2 hk4 (mpts_same (mptsOK_of h4 hk4) ag) k j) (fun r2 u2 q2 => ?_)
  obtain ⟨e2, q2⟩ := q2
  rw [e2]
  refine ⟨i32 ?_, (h.scr (scr_thr _ _)).E⟩
  have q3 : r2.toInt = if (isS nk k ∧ 0 < mN st (qI k)) ∧ 1 ≤ j.toInt ∧ j.toInt ≤ mN st (qI k) then mptY st (qI k) (qI j) else -1 := q2
  rw [q3, q]
  by_cases c : isS nk k
  · have hi : qI k < 4 := by show k.toInt.toNat < 4; omega
    rw [(mN_of h4 hi).1]
    by_cases c2 : (isS nk k ∧ 0 < pN st (qI k)) ∧ 1 ≤ j.toInt ∧ j.toInt ≤ pN st (qI k)
    · rw [if_pos c2, if_pos c2]
      have := (h4 _ hi).2.2.1.2.1
      exact (h4 _ hi).2.1 (qI j) (by show 1 ≤ j.toInt.toNat; omega) (by show j.toInt.toNat < 7; omega)
    · rw [if_neg c2, if_neg c2]
  · rw [if_neg (fun z => c z.1.1), if_neg (fun z => c z.1.1)]
theorem pr_even (h : Rel st t nk n np nt) (k m0 w : Int32) : Pair l D cy 4 3 YX11_even YX12_even [.int k, .int m0, .int w] st := by
  obtain ⟨h1, h2, h3, h4, h5, -⟩ := id h
  have key : ∀ u, scr st u → Mi l D cy 3 YX12_even [.ref 31, .int k, .int m0, .int w] u (fun r2 u2 => (∃ t2 nk2 n2 np2 nt2, Rel u2 t2 nk2 n2 np2 nt2) ∧ if isS nk k ∧ (0 ≤ m0.toInt ∧ m0.toInt < (st.1 0 0).toInt) ∧ 2 ≤ w.toInt ∧ w.toInt ≤ 16 then r2.toInt = evenF (kP st (qI k)) (kQ st (qI k)) (kB st (qI k)) (st.1 0 0).toInt m0.toInt (qI w) else r2 = -1) := by
    intro u hu
    have hu2 := hu.trans (scr_thr u 0)
    have ag := agM_scr hu2
    refine Mi.mono (w_even u _ rfl (mOK_same (mOK_of h2 h3) ag) k m0 w) (fun r2 u2 q2 => ?_)
    have eb : ((sI u 31 18 0).1 31 17).toInt = (st.1 0 0).toInt := by rw [ag.1 31 17 (by omega), (t_of h2).1, (t_of h2).2]
    rw [eb] at q2
    by_cases c : isS nk k ∧ (0 ≤ m0.toInt ∧ m0.toInt < (st.1 0 0).toInt) ∧ 2 ≤ w.toInt ∧ w.toInt ≤ 16
    · rw [if_pos c] at q2 ⊢
      obtain ⟨⟨f, rfl⟩, q3⟩ := q2
      refine ⟨(h.scr (hu2.trans (scr_R _ _ f (by omega)))).E, ?_⟩
      have hi : qI k < nk := by have := c.1; show k.toInt.toNat < nk; omega
      obtain ⟨k1, k2, k3⟩ := key_eq h2 hi
      have e1 : mP (sI u 31 18 0) (qI k) = kP st (qI k) := by
        show ((sI u 31 18 0).1 63 (qI k)).toInt = _
        rw [ag.1 63 _ (by omega)]; exact k1
      have e2 : ((sI u 31 18 0).1 64 (qI k)).toInt = kQ st (qI k) := by rw [ag.1 64 _ (by omega)]; exact k2
      have e3 : ((sI u 31 18 0).1 65 (qI k)).toInt = kB st (qI k) := by rw [ag.1 65 _ (by omega)]; exact k3
      rw [q3, e1, e2, e3]
    · rw [if_neg c] at q2 ⊢
      rw [q2.2]
      exact ⟨(h.scr hu2).E, q2.1⟩
  refine Mi.mono (m_even st (xOK_of h2 h3) k m0 w) (fun r u q => ?_)
  by_cases c : isS nk k ∧ (0 ≤ m0.toInt ∧ m0.toInt < (st.1 0 0).toInt) ∧ 2 ≤ w.toInt ∧ w.toInt ≤ 16
  · rw [if_pos c] at q
    obtain ⟨⟨f, rfl⟩, q⟩ := q
    refine Mi.mono (key _ (scr_R st 28 f (by omega))) (fun r2 u2 q2 => ?_)
    rw [if_pos c] at q2
    exact ⟨i32 (q2.2.trans q.symm), q2.1⟩
  · rw [if_neg c] at q
    rw [q.2]
    refine Mi.mono (key _ (scr.refl st)) (fun r2 u2 q2 => ?_)
    rw [if_neg c] at q2
    exact ⟨q2.2.trans q.1.symm, q2.1⟩
end PAIR
