/-! PAIRS: read -/
theorem by_of (x : Int32) : x &&& 255 = nI (x &&& 255).toBitVec.toNat ∧ (x &&& 255).toBitVec.toNat < 256 := by
  refine ⟨nI_ex _, ?_⟩
  obtain ⟨j, hj, e⟩ := pk_andE x (m := 255) 8 (by decide)
  rw [e, pk_tn (by omega)]
  exact hj
theorem dfN_two {st u : St} {t a b : Nat} (ea : ∀ r, r < 5 → u.1 (95 + r + 5 * a) = st.1 (95 + r + 5 * a)) (eb : ∀ r, r < 5 → u.1 (95 + r + 5 * b) = st.1 (95 + r + 5 * b)) : dfN u t a b = dfN st t a b := by
  have a0 : u.1 (95 + 5 * a) = st.1 (95 + 5 * a) := ea 0 (by decide)
  have a1 : u.1 (96 + 5 * a) = st.1 (96 + 5 * a) := ea 1 (by decide)
  have a2 : u.1 (97 + 5 * a) = st.1 (97 + 5 * a) := ea 2 (by decide)
  have a3 : u.1 (98 + 5 * a) = st.1 (98 + 5 * a) := ea 3 (by decide)
  have a4 : u.1 (99 + 5 * a) = st.1 (99 + 5 * a) := ea 4 (by decide)
  have b0 : u.1 (95 + 5 * b) = st.1 (95 + 5 * b) := eb 0 (by decide)
  have b1 : u.1 (96 + 5 * b) = st.1 (96 + 5 * b) := eb 1 (by decide)
  have b2 : u.1 (97 + 5 * b) = st.1 (97 + 5 * b) := eb 2 (by decide)
  have b3 : u.1 (98 + 5 * b) = st.1 (98 + 5 * b) := eb 3 (by decide)
  have b4 : u.1 (99 + 5 * b) = st.1 (99 + 5 * b) := eb 4 (by decide)
  unfold dfN difB gK gA gB
  rw [a0, a1, a2, a3, a4, b0, b1, b2, b3, b4]
section PREAD
variable {l : Launch} {D : va_G} {cy : Nat → ClassId} {st : St} {t nk n np nt : Nat}
theorem pr_read (h : Rel st t nk n np nt) : Pair l D cy 25 7 YX11_read YX12_read [] st := by
  obtain ⟨h1, h2, h3, h4, h5, h6, h7, h8, h9, h10⟩ := id h
  have hp4 := h5.2.1
  by_cases c4 : np = 4
  · subst c4
    refine Mi.mono (m_read4 st h5.1) (fun r u q => ?_)
    rw [q.2]
    refine Mi.mono (w_read4 st _ rfl h5.2.2.1) (fun r2 u2 q2 => ?_)
    rw [q2.2]
    exact ⟨q2.1.trans q.1.symm, (h.scr (scr_thr _ _)).E⟩
  have hq : np < 4 := by omega
  have hB1 : ∀ i, i < nt → st.1 2 i &&& 255 = nI (st.1 2 i &&& 255).toBitVec.toNat ∧ (st.1 2 i &&& 255).toBitVec.toNat < 256 := fun i _ => by_of _
  refine Mi.mono (m_read (t := t) st (B := fun i => (st.1 2 i &&& 255).toBitVec.toNat) ⟨h1.1, h1.2.1, hB1⟩ hq h5.1 h2.1.2.2.2.2.1 h2.1.2.2.2.2.2.1 h2.1.2.1 h2.1.2.2.1) (fun r u q => ?_)
  obtain ⟨fu, tu, q⟩ := q
  have agM0 : agM st (sI u 31 18 0) := by
    refine ⟨fun a j z => ?_, fun a z => ?_⟩
    · rw [sI_1, if_neg (by omega)]
      rw [fu.1 a (by omega) (by omega) (by omega) (by omega) (by omega) (by omega) (by omega) (by omega)]
    · exact fu.2.1 a (by omega) (by omega)
  refine Mi.mono (w_read (bs := t) u _ rfl (B := fun i => (st.1 2 i &&& 255).toBitVec.toNat) (n := nt) (by rw [agM0.1 31 1 (by omega)]; exact h1.2.2.1) h1.2.1 (fun i hi => ?_) hq (by rw [agM0.1 31 19 (by omega)]; exact h5.2.2.1) (by rw [agM0.1 31 17 (by omega)]; exact h2.1.2.2.2.2.2.2) h2.1.2.1 h2.1.2.2.1 (ky_same h10 (fun a z => agM0.2 a (by omega)))) (fun r2 u2 q2 => ?_)
  · rw [agM0.1 32 i (by omega), ← h1.2.2.2 i hi]
    exact hB1 i hi
  obtain ⟨fm, tm, q2⟩ := q2
  generalize hR : redF t (fun i => (st.1 2 i &&& 255).toBitVec.toNat) nt = R at q q2
  -- class cells at the end
  have xc : ∀ a j, a ≠ 31 → a < 33 → u2.1 a j = u.1 a j := fun a j z1 z2 => by rw [fm.1 a z1 (Or.inl z2), sI_row z1]
  have xk : ∀ a j, 62 < a → u2.1 a j = u.1 a j := fun a j z => by rw [fm.1 a (by omega) (Or.inr z), sI_row (by omega)]
  have keep : ∀ a j, (a = 0 ∧ j ≠ 5 ∧ j ≠ 10) ∨ (16 ≤ a ∧ a ≤ 30) ∨ (62 < a ∧ ¬ (95 + 5 * np ≤ a ∧ a ≤ 99 + 5 * np)) ∨ (a = 31 ∧ (j = 17 ∨ j = 18 ∨ 50 < j) ∧ j ≠ 18) → u2.1 a j = st.1 a j := fun a j z => by
    rcases z with z | z | z | z
    · rw [xc a j (by omega) (by omega), z.1]
      exact fu.2.2.2.2 j z.2.1 z.2.2
    · rw [xc a j (by omega) (by omega), fu.1 a (by omega) (by omega) (by omega) (by omega) (by omega) (by omega) (by omega) (by omega)]
    · rw [xk a j z.1, fu.1 a (by omega) (by omega) (by omega) (by omega) (by omega) (by omega) (by omega) (by omega)]
    · rw [z.1, fm.2.2.1 j (by omega), sI_1, if_neg (by omega), fu.1 31 (by omega) (by omega) (by omega) (by omega) (by omega) (by omega) (by omega) (by omega)]
  have keep10 : u2.1 10 0 = st.1 10 0 := by rw [xc 10 0 (by decide) (by decide)]; exact fu.2.2.1
  have keep14 : u2.1 14 0 = st.1 14 0 := by rw [xc 14 0 (by decide) (by decide)]; exact fu.2.2.2.1
  have keepL : ∀ a, a = 38 ∨ 62 < a → u2.2 a = st.2 a := fun a z => by
    rw [fm.2.1 a (by omega)]
    exact fu.2.1 a (by omega) (by omega)
  have sm : ∀ a, 39 ≤ a ∧ a ≤ 45 → (sI u 31 18 0).1 a = st.1 a := fun a z => funext (fun j => agM0.1 a j (by omega))
  have prow : ∀ i, i < np → ∀ r, r < 5 → u2.1 (95 + r + 5 * i) = st.1 (95 + r + 5 * i) := fun i hi r hr => funext (fun j => keep _ j (by omega))
  have hold : ∀ i, i < np → B5q u2 t i := fun i hi => by
    have p0 : u2.1 (95 + 5 * i) = st.1 (95 + 5 * i) := prow i hi 0 (by decide)
    have p1 : u2.1 (96 + 5 * i) = st.1 (96 + 5 * i) := prow i hi 1 (by decide)
    have p2 : u2.1 (97 + 5 * i) = st.1 (97 + 5 * i) := prow i hi 2 (by decide)
    have p3 : u2.1 (98 + 5 * i) = st.1 (98 + 5 * i) := prow i hi 3 (by decide)
    have p4 : u2.1 (99 + 5 * i) = st.1 (99 + 5 * i) := prow i hi 4 (by decide)
    obtain ⟨o1, o2⟩ := h5.2.2.2 i hi
    have hk : pgOK (t : Int) u2 i := by
      unfold pgOK at *
      rw [p0, p1, p2, p3, p4]
      exact o1
    have eK : gK u2 i = gK st i := by unfold gK; rw [p1]
    have eA : gA u2 i = gA st i := by unfold gA; rw [p2]
    have eB : gB u2 i = gB st i := by unfold gB; rw [p3]
    have eU : gU u2 i = gU st i := by unfold gU; rw [p4]
    refine ⟨hk, ?_⟩
    rw [eK, eA, eB, eU, p0]
    obtain ⟨m1, m2, m3, m4, m5, m6, m7, m8, m9, m10⟩ := o2
    refine ⟨?_, ?_, ?_, m4, m5, m6, fun w hw => ?_, fun k hk => ?_, m9, m10⟩
    · rw [fm.2.2.2.1 42 (by omega) i (by omega) (by omega), sm 42 (by omega)]; exact m1
    · rw [fm.2.2.2.1 39 (by omega) i (by omega) (by omega), sm 39 (by omega)]; exact m2
    · rw [fm.2.2.2.1 40 (by omega) i (by omega) (by omega), sm 40 (by omega)]; exact m3
    · rw [fm.2.2.2.2.1 43 (by omega) _ (by omega), fm.2.2.2.2.1 44 (by omega) _ (by omega), fm.2.2.2.2.1 45 (by omega) _ (by omega), sm 43 (by omega), sm 44 (by omega), sm 45 (by omega)]
      exact m7 w hw
    · rw [fm.2.2.2.2.2 _ (by omega), sm 41 (by omega)]
      exact m8 k hk
  have hdif : ∀ np2, np ≤ np2 → B6 u2 t np2 := fun np2 hn2 a b ha hb => by
    rw [keep 29 (4 * a + b) (by omega)]
    rcases h6 a b ha hb with z | ⟨z1, z2, z3⟩
    · exact Or.inl z
    · refine Or.inr ⟨by omega, by omega, ?_⟩
      rw [dfN_two (prow a z1) (prow b z2)]
      exact z3
  have hb1 : B1 u2 0 := ⟨by rw [xc 1 1 (by decide) (by decide)]; exact tu, by omega, tm, fun i hi => absurd hi (Nat.not_lt_zero _)⟩
  have hb2 : B2 u2 t nk := by
    refine h2.same (fun a j z => ?_)
    by_cases e : (a = 10 ∨ a = 14) ∧ j = 0
    · obtain ⟨e1 | e1, e2⟩ := e
      · rw [e1, e2]; exact keep10
      · rw [e1, e2]; exact keep14
    · exact keep a j (by omega)
  have hb3 : B3 u2 nk n := h3.same (fun a j z => keep a j (by omega)) (fun a z => keepL a (by omega))
  have hb4 : B4 u2 nk := h4.same (fun a j z => keep a j (by omega)) (fun a z => keepL a (by omega))
  have hb7 : B7 u2 n := h7.same (fun a j z => keep a j (by omega))
  have hb8 : B8 u2 := h8.same (fun a j z => keep a j (by omega))
  have hb10 : kyOK u2 := ky_same h10 (fun a z => keepL a (by omega))
  have p10 : u2.1 0 10 = u.1 0 10 := xc 0 10 (by decide) (by decide)
  have p5 : u2.1 0 5 = u.1 0 5 := xc 0 5 (by decide) (by decide)
  cases R with
  | inl e =>
    obtain ⟨q1, q3, q4, q5⟩ := q
    obtain ⟨z1, z2, z3⟩ := q2
    refine ⟨by rw [z1, q1], (show Rel u2 t nk n np 0 from ⟨hb1, hb2, hb3, hb4, ⟨by rw [p10]; exact q4, hp4, z3, hold⟩, hdif np (Nat.le_refl _), hb7, hb8, ?_, hb10⟩).E⟩
    show u2.1 31 16 = u2.1 0 5
    rw [z2, p5, q3]
  | inr x =>
    obtain ⟨q1, q3, q4, q5, q6, q7⟩ := q
    obtain ⟨z1, z2, z3, z4, z5, z6, z7, z8, z9, z10, z11⟩ := q2
    refine ⟨by rw [z1, q1], (show Rel u2 t nk n (np + 1) 0 from ⟨hb1, hb2, hb3, hb4, ⟨by rw [p10]; exact q4, by omega, z3, fun i hi => ?_⟩, hdif (np + 1) (by omega), hb7, hb8, ?_, hb10⟩).E⟩
    · by_cases e : i < np
      · exact hold i e
      · have ei : i = np := by omega
        subst ei
        have w40 : x.2.2.1.length ≤ 40 := z5.2.1
        have eW : u2.1 (95 + 5 * i) 5 = nI x.2.2.1.length := by rw [xk _ _ (by omega)]; exact q6.1
        have eI : u2.1 (95 + 5 * i) 4 = nI x.1 := by rw [xk _ _ (by omega)]; exact q5
        have eO : u2.1 (95 + 5 * i) 6 = nI x.2.2.2.2.length := by rw [xk _ _ (by omega)]; exact q7.1
        have nW : (u2.1 (95 + 5 * i) 5).toInt = (x.2.2.1.length : Int) := by rw [eW, nI_toInt (by omega)]
        have nI_ : (u2.1 (95 + 5 * i) 4).toInt = (x.1 : Int) := by rw [eI, nI_toInt (by omega)]
        have nO : (u2.1 (95 + 5 * i) 6).toInt = (x.2.2.2.2.length : Int) := by rw [eO, nI_toInt (by omega)]
        have wk : ∀ w, w < x.2.2.1.length → (u2.1 (96 + 5 * i) w).toInt = ((x.2.2.1.getD w (0, 0, 0)).1 : Int) ∧ (u2.1 (97 + 5 * i) w).toInt = (x.2.2.1.getD w (0, 0, 0)).2.1 ∧ (u2.1 (98 + 5 * i) w).toInt = (x.2.2.1.getD w (0, 0, 0)).2.2 := fun w hw => by
          rw [xk _ _ (by omega), xk _ _ (by omega), xk _ _ (by omega)]
          exact q6.2 w hw (by omega)
        have ou : ∀ k, k < x.2.2.2.2.length → (u2.1 (99 + 5 * i) k).toInt = x.2.2.2.2.getD k 0 := fun k hk => by
          rw [xk _ _ (by omega)]
          exact q7.2 k hk
        have wks : ∀ w, w < x.2.2.1.length → wkOK (t : Int) (x.1 : Int) w (u2.1 (96 + 5 * i) w).toInt (u2.1 (97 + 5 * i) w).toInt (u2.1 (98 + 5 * i) w).toInt := fun w hw => by
          obtain ⟨k1, k2, k3⟩ := wk w hw
          rw [k1, k2, k3]
          exact z10 w hw
        have outs : ∀ k, k < x.2.2.2.2.length → cOK (x.2.2.1.length : Int) (x.1 : Int) (u2.1 (99 + 5 * i) k).toInt ∨ (-(t : Int) ≤ (u2.1 (99 + 5 * i) k).toInt ∧ (u2.1 (99 + 5 * i) k).toInt < 0) := fun k hk => by
          rw [ou k hk]
          have hm : x.2.2.2.2.getD k 0 ∈ x.2.2.2.2 := by
            rw [List.getD_eq_getElem?_getD, List.getElem?_eq_getElem hk]
            exact List.getElem_mem hk
          exact (z11 _ hm).elim Or.inr Or.inl
        refine ⟨?_, ?_⟩
        · unfold pgOK
          rw [nW, nI_, nO]
          exact ⟨by omega, by omega, by omega, by omega, by omega, by omega, fun w hw => wks w (by omega), fun k hk => outs k (by omega)⟩
        · rw [nW, nI_, nO]
          refine ⟨z5.1, z4, z6, w40, z8, z9, fun w hw => ?_, fun k hk => ?_, fun w hw => wks w hw, fun k hk => outs k hk⟩
          · obtain ⟨k1, k2, k3⟩ := wk w hw
            obtain ⟨j1, j2, j3⟩ := z5.2.2 w hw
            have hkk : (x.2.2.1.getD w (0, 0, 0)).1 ≤ 5 := by have := (z10 w hw).2.1; omega
            unfold gK gA gB
            rw [k1, k2, k3, j1, j2, j3, nI_toInt (by omega)]
            refine ⟨rfl, rfl, ?_⟩
            unfold tB
            by_cases c : (x.2.2.1.getD w (0, 0, 0)).1 = 4 ∨ (x.2.2.1.getD w (0, 0, 0)).1 = 5
            · rw [if_pos c, if_pos (by omega)]
            · rw [if_neg c, if_neg (by omega)]
          · unfold gU
            rw [ou k hk]
            exact z7 k hk
    · show u2.1 31 16 = u2.1 0 5
      rw [z2, p5, q3]
end PREAD
