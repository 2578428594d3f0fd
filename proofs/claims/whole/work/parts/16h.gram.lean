/-! GRAMMAR: check -/
section GRAMF
variable {l : Launch} {D : va_G} {cy : Nat → ClassId}
theorem tkK_lt {B : Nat → Nat} {n : Nat} (hB : ∀ i, i < n → B i < 256) (k : Nat) : tkK B n k < 256 := by
  unfold tkK
  split
  · rename_i h
    have h1 := wordK_ne (wdF B (tkP B n k) (endT B n (tkP B n k) - tkP B n k))
    have h2 := hB _ h
    unfold kdF
    repeat' split
    all_goals omega
  · omega
def ckFr (st u : St) : Prop := (∀ a, a ≠ 3 → a ≠ 4 → a ≠ 5 → a ≠ 6 → a ≠ 8 → a ≠ 9 → u.1 a = st.1 a) ∧ ∀ a, a ≠ 7 → u.2 a = st.2 a
def ckPost (B : Nat → Nat) (n : Nat) (st : St) (r : Int32) (u : St) : Prop := ckFr st u ∧ match gramF (tkK B n) with
  | .inl e => r = nI e.1 ∧ u.1 3 4 = nI (tkP B n e.2)
  | .inr s => r = 0 ∧ u.1 3 4 = -1 ∧ gOK (tkK B n) u s ∧ (tkK B n s.1 = 0 → u.1 4 3 = nI s.1 ∧ tksOK u B n (s.1 + 1))
theorem m_check (st : St) {B : Nat → Nat} {n : Nat} (hT : tapOK st B n) : Mi l D cy 24 YX1_check [.ref 3, .ref 1] st (ckPost B n st) := by
  refine M.ofG [some (.ref 3), some (.ref 1), none, none] (by decide) (Nat.le_of_ble_eq_true rfl) rfl ?_
  intro xp xe xs xm xa xb xme xc xad xA
  refine g_ald0 eX1_check_0 ?_
  refine g_getR (ci := 1) (j := 0) rfl (Nat.le_of_ble_eq_true rfl) (Nat.le_of_ble_eq_true rfl) (Nat.le_of_ble_eq_true rfl) rfl rfl fl_X1_12 eX1_check_1 ?_
  refine g_ald1 eX1_check_4 ?_
  refine g_callVv (ci := 9) (m_split st hT) rfl (Nat.le_of_ble_eq_true rfl) (Nat.le_of_ble_eq_true rfl) rfl cv_X1_47 eX1_check_5 ⟨Nat.le_of_ble_eq_true rfl, Nat.le_of_ble_eq_true rfl⟩ rfl rfl (Nat.le_of_ble_eq_true rfl) (fun u1 h => ?_)
  obtain ⟨hF1, c, hc, hcc, hall, hend, hk, hk1⟩ := h
  have hlt : ∀ k, tkK B n k < 256 := tkK_lt (fun i hi => (hT.2.2 i hi).2)
  have hv1 : tvOK (tkK B n) (tkP B n) u1 := by
    intro k hk3 hj
    by_cases h1 : k < c
    · exact ⟨(hk k h1).1, (hk k h1).2.1, hlt k⟩
    · by_cases h2 : k = c
      · subst h2
        exact ⟨(hk1 hk3 k (by omega)).1, (hk1 hk3 k (by omega)).2.1, hlt k⟩
      · have h3 := hj c (by omega)
        omega
  refine g_ald0 eX1_check_8 ?_
  refine g_iconst (v := 0) (by decide) eX1_check_9 ?_
  refine g_putI (ci := 1) (j := 3) rfl rfl (Nat.le_of_ble_eq_true rfl) (Nat.le_of_ble_eq_true rfl) (Nat.le_of_ble_eq_true rfl) rfl fl_X1_25 eX1_check_10 ?_
  refine g_ald0 eX1_check_13 ?_
  refine g_iconst (v := 0) (by decide) eX1_check_14 ?_
  refine g_putI (ci := 1) (j := 5) rfl rfl (Nat.le_of_ble_eq_true rfl) (Nat.le_of_ble_eq_true rfl) (Nat.le_of_ble_eq_true rfl) rfl fl_X1_32 eX1_check_15 ?_
  refine g_ald0 eX1_check_18 ?_
  refine g_iconst (v := 0) (by decide) eX1_check_19 ?_
  refine g_putI (ci := 1) (j := 6) rfl rfl (Nat.le_of_ble_eq_true rfl) (Nat.le_of_ble_eq_true rfl) (Nat.le_of_ble_eq_true rfl) rfl fl_X1_35 eX1_check_20 ?_
  refine g_ald0 eX1_check_23 ?_
  refine g_iconst (v := 0) (by decide) eX1_check_24 ?_
  refine g_putI (ci := 1) (j := 7) rfl rfl (Nat.le_of_ble_eq_true rfl) (Nat.le_of_ble_eq_true rfl) (Nat.le_of_ble_eq_true rfl) rfl fl_X1_38 eX1_check_25 ?_
  refine g_ald0 eX1_check_28 ?_
  refine g_iconst (v := 0) (by decide) eX1_check_29 ?_
  refine g_putI (ci := 1) (j := 8) rfl rfl (Nat.le_of_ble_eq_true rfl) (Nat.le_of_ble_eq_true rfl) (Nat.le_of_ble_eq_true rfl) rfl fl_X1_41 eX1_check_30 ?_
  refine g_ald0 eX1_check_33 ?_
  refine g_iconst (v := 0) (by decide) eX1_check_34 ?_
  refine g_putI (ci := 1) (j := 9) rfl rfl (Nat.le_of_ble_eq_true rfl) (Nat.le_of_ble_eq_true rfl) (Nat.le_of_ble_eq_true rfl) rfl fl_X1_44 eX1_check_35 ?_
  refine g_ald0 eX1_check_38 ?_
  refine g_iconst (v := (-1)) (by decide) eX1_check_39 ?_
  refine g_putI (ci := 1) (j := 4) rfl rfl (Nat.le_of_ble_eq_true rfl) (Nat.le_of_ble_eq_true rfl) (Nat.le_of_ble_eq_true rfl) rfl fl_X1_29 eX1_check_40 ?_
  refine g_iconst (v := 1) (by decide) eX1_check_43 ?_
  refine g_ist2 rfl (Nat.le_of_ble_eq_true rfl) eX1_check_44 ?_
  refine g_iconst (v := 0) (by decide) eX1_check_45 ?_
  refine g_ist3 rfl (Nat.le_of_ble_eq_true rfl) eX1_check_46 ?_
  generalize hu : sI (sI (sI (sI (sI (sI (sI u1 3 3 0) 3 5 0) 3 6 0) 3 7 0) 3 8 0) 3 9 0) 3 4 (-1) = u2
  have t0 : tFr u1 u2 := by
    rw [← hu]
    exact ((((((tFr_put _ _ _).trans (tFr_put _ _ _)).trans (tFr_put _ _ _)).trans (tFr_put _ _ _)).trans (tFr_put _ _ _)).trans (tFr_put _ _ _)).trans (tFr_put _ _ _)
  have hg2 : gOK (tkK B n) u2 (0, [], []) := by
    rw [← hu]
    exact ⟨rfl, Nat.zero_le _, fun j hj => absurd hj (Nat.not_lt_zero _), ⟨rfl, rfl, rfl⟩, fun j hj => absurd hj (Nat.not_lt_zero _)⟩
  have hc2 : ctOK u2 (0, 0, 0) := by
    rw [← hu]
    exact ⟨rfl, rfl, rfl⟩
  generalize hR : gramF (tkK B n) = R
  have hfr : ∀ u, tFr u1 u → ckFr st u := by
    intro u h
    refine ⟨fun a h3 h4 h5 h6 h8 h9 => (h.1 a h3 h8 h9).trans (hF1.1 a h4 h5 h6), fun a h7 => ?_⟩
    rw [h.2]
    exact hF1.2 a h7
  have hdead : ∀ (a : Nat) (u : St) {x : Nat × Nat}, R = .inl x → tFr u1 u → gBad (tkP B n) u x → G xp l xe (rmd (24)) xs xm xa xb xme xc D cy xad xA (YX1_check.2.1, YX1_check.1.cls, YX1_check.2.2.1, YX1_check.2.2.2) (Pi (ckPost B n st)) 47 ([some (.ref 3), some (.ref 1), some (.int 0), some (.int (nI a))]) ([]) (u) := by
    intro a u x hR2 hF hx
    have fin : G xp l xe (rmd (24)) xs xm xa xb xme xc D cy xad xA (YX1_check.2.1, YX1_check.1.cls, YX1_check.2.2.1, YX1_check.2.2.2) (Pi (ckPost B n st)) 76 ([some (.ref 3), some (.ref 1), some (.int 0), some (.int (nI a))]) ([]) (u) := by
      refine g_ald0 eX1_check_76 ?_
      refine g_getI (ci := 1) (j := 9) rfl (Nat.le_of_ble_eq_true rfl) (Nat.le_of_ble_eq_true rfl) (Nat.le_of_ble_eq_true rfl) rfl fl_X1_44 eX1_check_77 ?_
      rw [hx.1]
      refine g_iret rfl eX1_check_80 ⟨_, rfl, ?_⟩
      try dsimp only
      unfold ckPost
      rw [hR, hR2]
      exact ⟨hfr u hF, rfl, hx.2⟩
    refine g_ild3 eX1_check_47 ?_
    refine g_sipush (v := 300) (by decide) eX1_check_48 ?_
    refine g_icmp_gt eX1_check_51 (fun hb => ?_) (fun hb => ?_)
    · exact fin
    · refine g_ild2 eX1_check_54 ?_
      refine g_if_eq eX1_check_55 (fun hb => ?_) (fun hb => ?_)
      · exact fin
      · exact absurd rfl hb
  have fin : ∀ (u : St) (s : GS) (a : Nat), gOK (tkK B n) u s → tFr u1 u → R = .inr s → G xp l xe (rmd (24)) xs xm xa xb xme xc D cy xad xA (YX1_check.2.1, YX1_check.1.cls, YX1_check.2.2.1, YX1_check.2.2.2) (Pi (ckPost B n st)) 76 ([some (.ref 3), some (.ref 1), some (.int 1), some (.int (nI a))]) ([]) (u) := by
    intro u s a hg hF hR2
    refine g_ald0 eX1_check_76 ?_
    refine g_getI (ci := 1) (j := 9) rfl (Nat.le_of_ble_eq_true rfl) (Nat.le_of_ble_eq_true rfl) (Nat.le_of_ble_eq_true rfl) rfl fl_X1_44 eX1_check_77 ?_
    rw [hg.2.2.2.1.2.1]
    refine g_iret rfl eX1_check_80 ⟨_, rfl, ?_⟩
    try dsimp only
    unfold ckPost
    rw [hR, hR2]
    refine ⟨hfr u hF, rfl, hg.2.2.2.1.2.2, hg, fun h0 => ?_⟩
    have hcs : c = s.1 := by
      have h1 := hg.2.1
      have h2 := hg.2.2.1
      by_cases q : c < s.1
      · have := h2 c q
        omega
      · by_cases q2 : s.1 < c
        · exact absurd h0 (hall _ q2).1
        · omega
    rw [hF.1 4 (by decide) (by decide) (by decide), hcc, hcs]
    refine ⟨rfl, fun j hj => ?_⟩
    rw [hF.1 5 (by decide) (by decide) (by decide), hF.1 6 (by decide) (by decide) (by decide), hF.2]
    exact hk1 (by have := hg.2.1; omega) j (by omega)
  have loop : ∀ (f a : Nat) (u : St) (s : GS) (c : CT), a + f = 301 → c.1 ≤ a ∧ c.2.1 ≤ a ∧ c.2.2 ≤ a → gOK (tkK B n) u s → ctOK u c → tFr u1 u → R = tellsL (tkK B n) f c s → G xp l xe (rmd (24)) xs xm xa xb xme xc D cy xad xA (YX1_check.2.1, YX1_check.1.cls, YX1_check.2.2.1, YX1_check.2.2.2) (Pi (ckPost B n st)) 47 ([some (.ref 3), some (.ref 1), some (.int 1), some (.int (nI a))]) ([]) (u) := by
    intro f
    induction f with
    | zero =>
      intro a u s c ha hca hg hc hF hR2
      refine g_ild3 eX1_check_47 ?_
      refine g_sipush (v := 300) (by decide) eX1_check_48 ?_
      refine g_icmp_gt eX1_check_51 (fun hb => ?_) (fun hb => ?_)
      · exact fin u s a hg hF hR2
      · exact absurd (nI_lt (a := 300) (b := a) (by omega) (by omega)) hb
    | succ f ih =>
      intro a u s c ha hca hg hc hF hR2
      have hv := tv_tfr hv1 hF
      refine g_ild3 eX1_check_47 ?_
      refine g_sipush (v := 300) (by decide) eX1_check_48 ?_
      refine g_icmp_gt eX1_check_51 (fun hb => ?_) (fun hb => ?_)
      · exact absurd hb (nI_nlt (a := 300) (b := a) (by omega) (by omega))
      · refine g_ild2 eX1_check_54 ?_
        refine g_if_eq eX1_check_55 (fun hb => ?_) (fun hb => ?_)
        · exact absurd hb (by decide)
        · refine g_ald0 eX1_check_58 ?_
          refine g_callVi (ci := 1) (m_now u hv hg) rfl (Nat.le_of_ble_eq_true rfl) (Nat.le_of_ble_eq_true rfl) rfl cv_X1_51 eX1_check_59 ⟨Nat.le_of_ble_eq_true rfl, Nat.le_of_ble_eq_true rfl⟩ rfl rfl (Nat.le_of_ble_eq_true rfl) (fun r u h => ?_)
          obtain ⟨rfl, rfl⟩ := h
          have hl := hlt s.1
          refine g_if_eq eX1_check_62 (fun hb => ?_) (fun hb => ?_)
          · have hb2 : tkK B n s.1 = 0 := (nI_eq (a := tkK B n s.1) (b := 0) (by omega) (by omega)).mp hb
            rw [tellsL, if_pos hb2] at hR2
            exact fin u s a hg hF hR2
          · have hb2 : ¬ tkK B n s.1 = 0 := fun q => hb (by rw [q]; rfl)
            rw [tellsL, if_neg hb2] at hR2
            refine g_ald0 eX1_check_65 ?_
            refine g_callVi (ci := 1) (m_tell u s c hv hg hc (by omega)) rfl (Nat.le_of_ble_eq_true rfl) (Nat.le_of_ble_eq_true rfl) rfl cv_X1_55 eX1_check_66 ⟨Nat.le_of_ble_eq_true rfl, Nat.le_of_ble_eq_true rfl⟩ rfl rfl (Nat.le_of_ble_eq_true rfl) (fun r w h => ?_)
            obtain ⟨hF3, hc3, h⟩ := h
            rcases e1 : tellF (tkK B n) c s with x | s1
            · rw [e1] at h
              obtain ⟨rfl, hx⟩ := h
              refine g_ist2 rfl (Nat.le_of_ble_eq_true rfl) eX1_check_69 ?_
              refine g_inc3 rfl (Nat.le_of_ble_eq_true rfl) rfl eX1_check_70 ?_
              refine g_goto eX1_check_73 ?_
              rw [inc1]
              exact hdead (a + 1) w (hR2.trans (gb_no e1)) (hF.trans hF3) hx
            · rw [e1] at h
              obtain ⟨rfl, hg3⟩ := h
              refine g_ist2 rfl (Nat.le_of_ble_eq_true rfl) eX1_check_69 ?_
              refine g_inc3 rfl (Nat.le_of_ble_eq_true rfl) rfl eX1_check_70 ?_
              refine g_goto eX1_check_73 ?_
              rw [inc1]
              refine ih (a + 1) w s1 _ (by omega) ?_ hg3 hc3 (hF.trans hF3) (hR2.trans (gb_ok e1))
              unfold ctF
              refine ⟨?_, ?_, ?_⟩
              all_goals (dsimp only; split <;> omega)
  exact loop 301 0 u2 (0, [], []) (0, 0, 0) rfl ⟨Nat.le_refl _, Nat.le_refl _, Nat.le_refl _⟩ hg2 hc2 t0 hR.symm
end GRAMF
