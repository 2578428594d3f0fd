/-! PAIRS: calls that change only what no one looks at -/
section PAIRB
variable {l : Launch} {D : va_G} {cy : Nat → ClassId} {st : St} {t nk n np nt : Nat}
theorem pairS {d1 d2 : Nat} {Y1 Y2 : MY} {as : List Value} {R R2 : Int32 → Prop} (h : Rel st t nk n np nt) (hM : Mi l D cy d1 Y1 (.ref 0 :: as) st (fun r u => scr st u ∧ R r)) (hW : ∀ u, scr st u → Mi l D cy d2 Y2 (.ref 31 :: as) u (fun r2 u2 => scr u u2 ∧ R2 r2)) (hR : ∀ r r2, R r → R2 r2 → r2 = r) : Pair l D cy d1 d2 Y1 Y2 as st :=
  Mi.mono hM (fun r u q => Mi.mono (hW u q.1) (fun r2 u2 q2 => ⟨hR r r2 q.2 q2.2, (h.scr (q.1.trans q2.1)).E⟩))
theorem mPg_all (h2 : B2 st t nk) (h5 : B5 st t np) {s1 : St} (ag : agM st s1) : ∀ q, q < np → mPg (s1.1 31 17).toInt s1 q (gK st q) (gA st q) (gB st q) (gU st q) ((st.1 (95 + 5 * q) 5).toInt).toNat ((st.1 (95 + 5 * q) 4).toInt).toNat ((st.1 (95 + 5 * q) 6).toInt).toNat := fun q hq => by
  rw [ag.1 31 17 (by omega), (t_of h2).2]
  exact mPg_same (h5.2.2.2 q hq).2 ag
theorem pg_n (h5 : B5 st t np) {x : Int32} (hx : isS np x) : (((st.1 (95 + 5 * (qI x)) 5).toInt).toNat : Int) = (st.1 (95 + 5 * (qI x)) 5).toInt ∧ (((st.1 (95 + 5 * (qI x)) 4).toInt).toNat : Int) = (st.1 (95 + 5 * (qI x)) 4).toInt ∧ (((st.1 (95 + 5 * (qI x)) 6).toInt).toNat : Int) = (st.1 (95 + 5 * (qI x)) 6).toInt := by
  have hb := (h5.2.2.2 (qI x) (by show x.toInt.toNat < np; omega)).1
  exact ⟨Int.toNat_of_nonneg hb.1, Int.toNat_of_nonneg hb.2.2.1, Int.toNat_of_nonneg hb.2.2.2.2.1⟩
theorem pr_cost (h : Rel st t nk n np nt) (x k : Int32) : Pair l D cy 3 2 YX11_cost YX12_cost [.int x, .int k] st := by
  obtain ⟨h1, h2, h3, h4, h5, -⟩ := id h
  refine pairS (R := fun r => r.toInt = if isS np x ∧ 0 ≤ k.toInt ∧ k.toInt < layN ((st.1 (95 + 5 * (qI x)) 5).toInt) then costF (gK st (qI x)) ((st.1 (95 + 5 * (qI x)) 5).toInt).toNat (qI k) else -1) (R2 := fun r => r.toInt = if isS np x ∧ 0 ≤ k.toInt ∧ k.toInt < layN (((st.1 (95 + 5 * (qI x)) 5).toInt).toNat : Int) then costF (gK st (qI x)) ((st.1 (95 + 5 * (qI x)) 5).toInt).toNat (qI k) else -1) h (Mi.mono (m_cost st (pOK_of h2 h5) x k) (fun r u q => ⟨by rw [q.1]; exact scr.refl _, q.2⟩)) (fun u hu => ?_) (fun r r2 q q2 => i32 ?_)
  · have hu2 := hu.trans (scr_thr u 0)
    have ag := agM_scr hu2
    exact Mi.mono (w_cost u _ rfl np (by rw [ag.1 31 19 (by omega)]; exact h5.2.2.1) h5.2.1 (mPg_all h2 h5 ag) x k) (fun r2 u2 q2 => ⟨by rw [q2.1]; exact scr_thr u 0, q2.2⟩)
  · rw [q, q2]
    by_cases c : isS np x
    · rw [(pg_n h5 c).1]
    · rw [if_neg (fun z => c z.1), if_neg (fun z => c z.1)]
theorem pr_holds (h : Rel st t nk n np nt) (x y k : Int32) : Pair l D cy 4 4 YX11_holds YX12_holds [.int x, .int y, .int k] st := by
  obtain ⟨h1, h2, h3, h4, h5, -⟩ := id h
  refine pairS (R := fun r => r = if (isS np x ∧ 0 ≤ k.toInt ∧ k.toInt < layN ((st.1 (95 + 5 * (qI x)) 5).toInt)) ∧ isS nk y then b2 (stays (gK st (qI x)) (gA st (qI x)) (gB st (qI x)) ((st.1 (95 + 5 * (qI x)) 4).toInt) ((st.1 (95 + 5 * (qI x)) 5).toInt).toNat (fB st (qI y)) (st.1 (83 + 3 * qI y) 0).toInt k.toInt) else -1) (R2 := fun r => r = if (isS np x ∧ 0 ≤ k.toInt ∧ k.toInt < layN (((st.1 (95 + 5 * (qI x)) 5).toInt).toNat : Int)) ∧ isS nk y then b2 (stays (gK st (qI x)) (gA st (qI x)) (gB st (qI x)) (((st.1 (95 + 5 * (qI x)) 4).toInt).toNat : Int) ((st.1 (95 + 5 * (qI x)) 5).toInt).toNat (fBm st (qI y)) (mP st (qI y)) k.toInt) else -1) h (Mi.mono (m_holds st (xOK_of h2 h3) (pOK_of h2 h5) x y k) (fun r u q => ?_)) (fun u hu => ?_) (fun r r2 q q2 => ?_)
  · by_cases c : (isS np x ∧ 0 ≤ k.toInt ∧ k.toInt < layN ((st.1 (95 + 5 * (qI x)) 5).toInt)) ∧ isS nk y
    · rw [if_pos c] at q ⊢
      obtain ⟨⟨g, rfl⟩, q⟩ := q
      exact ⟨scr_R st 26 g (by omega), q⟩
    · rw [if_neg c] at q ⊢
      rw [q.2]
      exact ⟨scr.refl _, q.1⟩
  · have hu2 := hu.trans (scr_thr u 0)
    have ag := agM_scr hu2
    refine Mi.mono (w_holds u _ rfl (mOK_same (mOK_of h2 h3) ag) np (by rw [ag.1 31 19 (by omega)]; exact h5.2.2.1) h5.2.1 (mPg_all h2 h5 ag) x y k) (fun r2 u2 q2 => ?_)
    have e1 : fBm (sI u 31 18 0) (qI y) = fBm st (qI y) := by
      show ((sI u 31 18 0).1 31 17).toInt * ((sI u 31 18 0).1 65 (qI y)).toInt + ((sI u 31 18 0).1 31 17).toInt - 1 = _
      rw [ag.1 31 17 (by omega), ag.1 65 _ (by omega)]
    have e2 : mP (sI u 31 18 0) (qI y) = mP st (qI y) := by
      show ((sI u 31 18 0).1 63 (qI y)).toInt = _
      rw [ag.1 63 _ (by omega)]
    rw [e1, e2] at q2
    by_cases c : (isS np x ∧ 0 ≤ k.toInt ∧ k.toInt < layN (((st.1 (95 + 5 * (qI x)) 5).toInt).toNat : Int)) ∧ isS nk y
    · rw [if_pos c] at q2 ⊢
      obtain ⟨⟨g, c9, d9, rfl⟩, q2⟩ := q2
      exact ⟨((scr_thr u 0).trans (scr_LR _ _ g (by omega))).trans (scr_mk _ _ _), q2⟩
    · rw [if_neg c] at q2 ⊢
      rw [q2.2]
      exact ⟨scr_thr u 0, q2.1⟩
  · rw [q, q2]
    by_cases c : isS np x
    · rw [(pg_n h5 c).1, (pg_n h5 c).2.1]
      by_cases cy9 : isS nk y
      · obtain ⟨k1, k2, k3⟩ := key_eq h2 (show qI y < nk by show y.toInt.toNat < nk; omega)
        have e1 : fBm st (qI y) = fB st (qI y) := by
          show (st.1 31 17).toInt * (st.1 65 (qI y)).toInt + (st.1 31 17).toInt - 1 = (st.1 0 0).toInt * (st.1 (83 + 3 * qI y) 2).toInt + (st.1 0 0).toInt - 1
          rw [k3, (t_of h2).1, (t_of h2).2]
        rw [e1, k1]
      · rw [if_neg (fun z => cy9 z.2), if_neg (fun z => cy9 z.2)]
    · rw [if_neg (fun z => c z.1.1), if_neg (fun z => c z.1.1)]
theorem pr_best (h : Rel st t nk n np nt) (x y : Int32) : Pair l D cy 5 4 YX11_best YX12_best [.int x, .int y] st := by
  obtain ⟨h1, h2, h3, h4, h5, -⟩ := id h
  refine pairS (R := fun r => r.toInt = if isS np x ∧ isS nk y ∧ (st.1 (95 + 5 * (qI x)) 5).toInt ≤ 12 then (bestG (stB st (qI x) (qI y) (fB st (qI y))) (layN ((st.1 (95 + 5 * (qI x)) 5).toInt)).toNat).1 else -1) (R2 := fun r => r.toInt = if isS np x ∧ isS nk y ∧ ((st.1 (95 + 5 * (qI x)) 5).toInt).toNat ≤ 12 then (bestG (stM st (qI y) (gK st (qI x)) (gA st (qI x)) (gB st (qI x)) ((st.1 (95 + 5 * (qI x)) 4).toInt).toNat ((st.1 (95 + 5 * (qI x)) 5).toInt).toNat) (layN (((st.1 (95 + 5 * (qI x)) 5).toInt).toNat : Int)).toNat).1 else -1) h (Mi.mono (m_best st (xOK_of h2 h3) (pOK_of h2 h5) x y) (fun r u q => ?_)) (fun u hu => ?_) (fun r r2 q q2 => i32 ?_)
  · by_cases c : isS np x ∧ isS nk y ∧ (st.1 (95 + 5 * (qI x)) 5).toInt ≤ 12
    · rw [if_pos c] at q ⊢
      obtain ⟨⟨g, rfl⟩, q⟩ := q
      exact ⟨scr_R st 26 g (by omega), q⟩
    · rw [if_neg c] at q ⊢
      rw [q.2, q.1]
      exact ⟨scr.refl _, rfl⟩
  · have hu2 := hu.trans (scr_thr u 0)
    have ag := agM_scr hu2
    refine Mi.mono (w_best u _ rfl (mOK_same (mOK_of h2 h3) ag) np (by rw [ag.1 31 19 (by omega)]; exact h5.2.2.1) h5.2.1 (mPg_all h2 h5 ag) x y) (fun r2 u2 q2 => ?_)
    have e0 : stM (sI u 31 18 0) (qI y) (gK st (qI x)) (gA st (qI x)) (gB st (qI x)) ((st.1 (95 + 5 * (qI x)) 4).toInt).toNat ((st.1 (95 + 5 * (qI x)) 5).toInt).toNat = stM st (qI y) (gK st (qI x)) (gA st (qI x)) (gB st (qI x)) ((st.1 (95 + 5 * (qI x)) 4).toInt).toNat ((st.1 (95 + 5 * (qI x)) 5).toInt).toNat := by
      unfold stM fBm mP
      rw [ag.1 31 17 (by omega), ag.1 65 _ (by omega), ag.1 63 _ (by omega)]
    rw [e0] at q2
    by_cases c : isS np x ∧ isS nk y ∧ ((st.1 (95 + 5 * (qI x)) 5).toInt).toNat ≤ 12
    · rw [if_pos c] at q2 ⊢
      obtain ⟨⟨g, c9, d9, rfl⟩, q2⟩ := q2
      exact ⟨((scr_thr u 0).trans (scr_LR _ _ g (by omega))).trans (scr_mk _ _ _), q2⟩
    · rw [if_neg c] at q2 ⊢
      rw [q2.2, q2.1]
      exact ⟨scr_thr u 0, rfl⟩
  · rw [q, q2]
    by_cases c : isS np x
    · obtain ⟨w1, w2, w3⟩ := pg_n h5 c
      by_cases cy9 : isS nk y
      · have e3 : stM st (qI y) (gK st (qI x)) (gA st (qI x)) (gB st (qI x)) ((st.1 (95 + 5 * (qI x)) 4).toInt).toNat ((st.1 (95 + 5 * (qI x)) 5).toInt).toNat = stB st (qI x) (qI y) (fB st (qI y)) := by
          obtain ⟨k1, k2, k3⟩ := key_eq h2 (show qI y < nk by show y.toInt.toNat < nk; omega)
          have e1 : fBm st (qI y) = fB st (qI y) := by
            show (st.1 31 17).toInt * (st.1 65 (qI y)).toInt + (st.1 31 17).toInt - 1 = (st.1 0 0).toInt * (st.1 (83 + 3 * qI y) 2).toInt + (st.1 0 0).toInt - 1
            rw [k3, (t_of h2).1, (t_of h2).2]
          unfold stM stB
          rw [e1, k1, w2]
        rw [e3, w1]
        by_cases c2 : (st.1 (95 + 5 * (qI x)) 5).toInt ≤ 12
        · rw [if_pos ⟨c, cy9, by omega⟩, if_pos ⟨c, cy9, c2⟩]
        · rw [if_neg (fun z => c2 (by have := z.2.2; omega)), if_neg (fun z => c2 z.2.2)]
      · rw [if_neg (fun z => cy9 z.2.1), if_neg (fun z => cy9 z.2.1)]
    · rw [if_neg (fun z => c z.1), if_neg (fun z => c z.1)]
theorem pr_openly (h : Rel st t nk n np nt) (x k v : Int32) : Pair l D cy 4 4 YX11_openly YX12_openly [.int x, .int k, .int v] st := by
  obtain ⟨h1, h2, h3, h4, h5, -⟩ := id h
  refine pairS (R := fun r => r.toInt = if (isS np x ∧ 0 ≤ k.toInt ∧ k.toInt < (st.1 (95 + 5 * (qI x)) 6).toInt) ∧ 0 ≤ v.toInt ∧ v.toInt < (st.1 0 0).toInt ^ ((st.1 (95 + 5 * (qI x)) 4).toInt).toNat then plO (gK st (qI x)) (gA st (qI x)) (gB st (qI x)) ((st.1 (95 + 5 * (qI x)) 5).toInt).toNat (st.1 0 0).toInt v.toInt ((st.1 (99 + 5 * (qI x)) (qI k)).toInt) else -1) (R2 := fun r => r.toInt = if (isS np x ∧ 0 ≤ k.toInt ∧ k.toInt < (((st.1 (95 + 5 * (qI x)) 6).toInt).toNat : Int)) ∧ 0 ≤ v.toInt ∧ v.toInt < (st.1 31 17).toInt ^ ((st.1 (95 + 5 * (qI x)) 4).toInt).toNat then plO (gK st (qI x)) (gA st (qI x)) (gB st (qI x)) ((st.1 (95 + 5 * (qI x)) 5).toInt).toNat (st.1 31 17).toInt v.toInt (gU st (qI x) (qI k)) else -1) h (Mi.mono (m_openly st (pOK_of h2 h5) x k v) (fun r u q => ?_)) (fun u hu => ?_) (fun r r2 q q2 => i32 ?_)
  · by_cases c : (isS np x ∧ 0 ≤ k.toInt ∧ k.toInt < (st.1 (95 + 5 * (qI x)) 6).toInt) ∧ 0 ≤ v.toInt ∧ v.toInt < (st.1 0 0).toInt ^ ((st.1 (95 + 5 * (qI x)) 4).toInt).toNat
    · rw [if_pos c] at q ⊢
      obtain ⟨⟨g, rfl⟩, q⟩ := q
      exact ⟨scr_R st 25 g (by omega), q⟩
    · rw [if_neg c] at q ⊢
      rw [q.2, q.1]
      exact ⟨scr.refl _, rfl⟩
  · have hu2 := hu.trans (scr_thr u 0)
    have ag := agM_scr hu2
    have eb : (sI u 31 18 0).1 31 17 = st.1 31 17 := ag.1 31 17 (by omega)
    have tb : tOK ((sI u 31 18 0).1 31 17) := by rw [eb]; exact ⟨by rw [(t_of h2).2]; have := h2.1.2.1; omega, by rw [(t_of h2).2]; have := h2.1.2.2.1; omega⟩
    refine Mi.mono (w_openly u _ rfl tb np (by rw [ag.1 31 19 (by omega)]; exact h5.2.2.1) h5.2.1 (mPg_all h2 h5 ag) x k v) (fun r2 u2 q2 => ?_)
    rw [eb] at q2
    by_cases c : (isS np x ∧ 0 ≤ k.toInt ∧ k.toInt < (((st.1 (95 + 5 * (qI x)) 6).toInt).toNat : Int)) ∧ 0 ≤ v.toInt ∧ v.toInt < (st.1 31 17).toInt ^ ((st.1 (95 + 5 * (qI x)) 4).toInt).toNat
    · rw [if_pos c] at q2 ⊢
      obtain ⟨⟨f, g, rfl⟩, q2⟩ := q2
      exact ⟨((scr_thr u 0).trans (scr_R _ _ f (by omega))).trans (scr_R _ _ g (by omega)), q2⟩
    · rw [if_neg c] at q2 ⊢
      rw [q2.2, q2.1]
      exact ⟨scr_thr u 0, rfl⟩
  · rw [q, q2, (t_of h2).1, (t_of h2).2]
    by_cases c : isS np x
    · rw [(pg_n h5 c).2.2]
      rfl
    · rw [if_neg (fun z => c z.1.1), if_neg (fun z => c z.1.1)]
theorem mpt_eq (h4 : B4 st nk) {s1 : St} (ag : agM st s1) {i : Nat} (hi : i < 4) : mN s1 i = pN st i ∧ mKn s1 i = pKn st i ∧ ∀ j, 1 ≤ j → j < 7 → mptY s1 i j = ptY st i j := by
  obtain ⟨m1, m2⟩ := mN_of h4 hi
  have r : ∀ a, a = 78 ∨ a = 79 → s1.1 a = st.1 a := fun a ha => funext (fun j => ag.1 a j (by omega))
  refine ⟨?_, ?_, fun j h1 h7 => ?_⟩
  · rw [← m1]; unfold mN; rw [r 78 (by omega)]
  · rw [← m2]; unfold mKn; rw [r 79 (by omega)]
  · rw [← (h4 i hi).2.1 j h1 h7]; unfold mptY; rw [ag.2 80 (by omega)]
theorem pr_count (h : Rel st t nk n np nt) (x : Int32) : Pair l D cy 2 0 YX11_count YX12_count [.int x] st := by
  obtain ⟨h1, h2, h3, h4, h5, h6, h7, h8, h9, h10⟩ := id h
  refine Mi.mono (m_count st (pOK_of h2 h5) x) (fun r u q => ?_)
  obtain ⟨e, q⟩ := q
  rw [e]
  refine Mi.mono (w_count st _ rfl np h5.2.2.1 h5.2.1 x) (fun r2 u2 q2 => ?_)
  obtain ⟨e2, q2⟩ := q2
  rw [e2]
  refine ⟨i32 ?_, (h.scr (scr_thr _ _)).E⟩
  have q3 : r2.toInt = if x.toInt = 0 then (st.1 31 53).toInt else if x.toInt = 1 then (st.1 31 58).toInt else if x.toInt = 2 then (st.1 31 19).toInt else if x.toInt = 3 then (st.1 31 1).toInt else if x.toInt = 4 then (st.1 31 65).toInt else if x.toInt = 5 then (st.1 31 17).toInt else cntM st np x.toInt := q2
  have ec : cntM st np x.toInt = cntF st np x.toInt := by
    unfold cntM cntF
    by_cases c1 : 10 ≤ x.toInt ∧ x.toInt < 10 + (np : Int)
    · rw [if_pos c1, if_pos c1]
      have hb := h5.2.2.2 (x.toInt - 10).toNat (by omega)
      have := hb.1.2.2.1
      have := hb.1.2.2.2.1
      rw [hb.2.2.1, nI_toInt (by omega)]
      omega
    · rw [if_neg c1, if_neg c1]
      by_cases c2 : 20 ≤ x.toInt ∧ x.toInt < 20 + (np : Int)
      · rw [if_pos c2, if_pos c2]
        have hb := h5.2.2.2 (x.toInt - 20).toNat (by omega)
        have := hb.1.2.2.2.2.1
        have := hb.1.2.2.2.2.2.1
        rw [hb.2.2.2.1, nI_toInt (by omega)]
        omega
      · rw [if_neg c2, if_neg c2]
  rw [q3, q, ec, h2.2.1.2.2, h2.2.1.1, h3.2.2.1, h3.1, h5.2.2.1, h5.1, h1.2.2.1, h1.1, h8.1, (t_of h2).1, (t_of h2).2]
end PAIRB
