/-! SealedSums: openings within the budget -/
section CLSC
variable {l : Launch} {D : va_G} {cy : Nat → ClassId}
/-- an opening with added noise; what it takes -/
noncomputable def opgF (v t : Int) (a seed : Int32) : Int := (v + lotF seed 2 (2 * a.toInt + 1) - a.toInt) % t
theorem opX_lt (st : St) (n : Nat) (s0 : Int32) (h5 : tOK (st.1 0 0)) : opX st n s0 < 13 := by
  have hor := nmod_rng (rC st s0) (st.1 (83 + 3 * rK st s0) 0).toInt h5
  unfold opX
  by_cases q1 : isS n s0
  · rw [if_pos q1]
    by_cases q2 : alvX st (rK st s0)
    · rw [if_pos q2]
      by_cases q3 : (st.1 (83 + 3 * rK st s0) 0).toInt ≤ 2 * rB st s0
      · rw [if_pos q3]; decide
      · rw [if_neg q3]; exact hor.2
    · rw [if_neg q2]; decide
  · rw [if_neg q1]; decide
theorem take_eq (a : Int32) (h : 0 ≤ a.toInt ∧ a.toInt ≤ 5) : (¬ a + 1 = 0) ∧ ((60 : Int32) / (a + 1)).toInt = 60 / (a.toInt + 1) ∧ 0 ≤ 60 / (a.toInt + 1) ∧ 60 / (a.toInt + 1) ≤ 60 := by
  obtain ⟨k, hk, rfl⟩ := as_nI (x := a) (n := 6) (by omega)
  rw [nI_toInt (by omega)]
  clear h
  revert k
  decide +kernel
theorem add_noise (v w a : Int32) (lo : Int) (hv : 0 ≤ v.toInt ∧ v.toInt < 13) (hw : w.toInt = lo) (hl : 0 ≤ lo ∧ lo < 11) (ha : 0 ≤ a.toInt ∧ a.toInt ≤ 5) : (v + w - a).toInt = v.toInt + lo - a.toInt := by
  have e3 : (v + w).toInt = v.toInt + lo := by rw [fb_addI] <;> rw [hw] <;> omega
  rw [fb_subI] <;> rw [e3] <;> omega
theorem two_one (a : Int32) (ha : 0 ≤ a.toInt ∧ a.toInt ≤ 5) : ((2 : Int32) * a + 1).toInt = 2 * a.toInt + 1 := by
  have e2a : ((2 : Int32) * a).toInt = 2 * a.toInt := by
    have : (2 : Int32).toInt = 2 := rfl
    rw [fb_mulI] <;> rw [this] <;> omega
  rw [fb_addI] <;> rw [e2a, o32] <;> omega
set_option maxHeartbeats 4000000 in
theorem m_opening (st : St) {nk n : Nat} (hx : xOK st nk n) (s0 a seed : Int32) (hbud : 0 ≤ (st.1 0 15).toInt ∧ (st.1 0 15).toInt ≤ 10000) : Mi l D cy 5 YX11_opening [.ref 0, .int s0, .int a, .int seed] st (fun r u => if isS n s0 ∧ 0 ≤ a.toInt ∧ a.toInt ≤ 5 then (if opX st n s0 < 0 then r.toInt = opX st n s0 ∧ u = st else if (st.1 0 15).toInt < 60 / (a.toInt + 1) then r = -4 ∧ u = st else r.toInt = opgF (opX st n s0) (st.1 0 0).toInt a seed ∧ ∃ z : Int32, z.toInt = (st.1 0 15).toInt - 60 / (a.toInt + 1) ∧ u = sI st 0 15 z) else r = -1 ∧ u = st) := by
  have hx0 := hx
  obtain ⟨h1, h2, h3, h4, h5, h6, h7, h8⟩ := hx
  have hcn : (st.1 17 4).toInt = n := by rw [h3, nI_toInt (by omega)]
  refine M.ofG [some (.ref 0), some (.int s0), some (.int a), some (.int seed), none, none] (by decide) (Nat.le_of_ble_eq_true rfl) rfl ?_
  intro xp xe xs xm xa xb xme xc xad xA
  refine g_ald0 eX11_opening_0 ?_
  refine g_ild1 eX11_opening_1 ?_
  refine g_callVi (ci := 10) (m_isSealed _ s0) rfl (Nat.le_of_ble_eq_true rfl) (Nat.le_of_ble_eq_true rfl) rfl cv_X11_151 eX11_opening_2 ⟨Nat.le_of_ble_eq_true rfl, Nat.le_of_ble_eq_true rfl⟩ rfl rfl (Nat.le_of_ble_eq_true rfl) (fun r st h => ?_)
  obtain ⟨rfl, rfl⟩ := h
  refine g_if_eq eX11_opening_5 (fun ha => ?_) (fun ha => ?_)
  · rw [b2_eq0, hcn] at ha
    refine g_iconst (v := (-1)) (by decide) eX11_opening_17 ?_
    refine g_iret rfl eX11_opening_18 ⟨_, rfl, ?_⟩
    try dsimp only
    rw [if_neg (fun h => ha h.1)]
    exact ⟨rfl, rfl⟩
  · rw [b2_ne0, hcn] at ha
    refine g_ild2 eX11_opening_8 ?_
    refine g_if_lt eX11_opening_9 (fun hb => ?_) (fun hb => ?_)
    · simp only [fa_lt, Int32.reduceToInt] at hb
      refine g_iconst (v := (-1)) (by decide) eX11_opening_17 ?_
      refine g_iret rfl eX11_opening_18 ⟨_, rfl, ?_⟩
      try dsimp only
      rw [if_neg (fun h => by omega)]
      exact ⟨rfl, rfl⟩
    · simp only [fa_lt, Int32.reduceToInt] at hb
      refine g_ild2 eX11_opening_12 ?_
      refine g_iconst (v := 5) (by decide) eX11_opening_13 ?_
      refine g_icmp_le eX11_opening_14 (fun hb2 => ?_) (fun hb2 => ?_)
      · simp only [fa_le, Int32.reduceToInt] at hb2
        refine g_ald0 eX11_opening_19 ?_
        refine g_ild1 eX11_opening_20 ?_
        refine g_callVi (ci := 10) (m_open _ hx0 s0) rfl (Nat.le_of_ble_eq_true rfl) (Nat.le_of_ble_eq_true rfl) rfl cv_X11_199 eX11_opening_21 ⟨Nat.le_of_ble_eq_true rfl, Nat.le_of_ble_eq_true rfl⟩ rfl rfl (Nat.le_of_ble_eq_true rfl) (fun v st hv => ?_)
        obtain ⟨rfl, hv⟩ := hv
        have hC : isS n s0 ∧ 0 ≤ a.toInt ∧ a.toInt ≤ 5 := ⟨ha, by omega, hb2⟩
        refine g_ist4 rfl (Nat.le_of_ble_eq_true rfl) eX11_opening_24 ?_
        refine g_ild4 eX11_opening_26 ?_
        refine g_if_ge eX11_opening_28 (fun hvn => ?_) (fun hvn => ?_)
        · simp only [fa_le, Int32.reduceToInt] at hvn
          have hva : 0 ≤ a.toInt ∧ a.toInt ≤ 5 := hC.2
          obtain ⟨tne, teq, tr⟩ := take_eq a hva
          have hvr : v.toInt < 13 := by rw [hv]; exact opX_lt st n s0 h5
          clear h6 h7 h8
          refine g_bipush (v := 60) (by decide) eX11_opening_34 ?_
          refine g_ild2 eX11_opening_36 ?_
          refine g_iconst (v := 1) (by decide) eX11_opening_37 ?_
          refine g_iadd eX11_opening_38 ?_
          refine g_idiv tne eX11_opening_39 ?_
          refine g_ist5 rfl (Nat.le_of_ble_eq_true rfl) eX11_opening_40 ?_
          generalize (60 : Int32) / (a + 1) = tk at teq ⊢
          generalize 60 / (a.toInt + 1) = TK at teq tr ⊢
          refine g_ald0 eX11_opening_42 ?_
          refine g_getI (ci := 10) (j := 15) rfl (Nat.le_of_ble_eq_true rfl) (Nat.le_of_ble_eq_true rfl) (Nat.le_of_ble_eq_true rfl) rfl fl_X11_62 eX11_opening_43 ?_
          refine g_ild5 eX11_opening_46 ?_
          refine g_icmp_ge eX11_opening_48 (fun hlt => ?_) (fun hlt => ?_)
          · rw [fa_le, teq] at hlt
            have e2b := two_one a hva
            have hlr := lot_rng seed 2 (n := 2 * a.toInt + 1) (by omega)
            refine g_ald0 eX11_opening_54 ?_
            refine g_dup rfl eX11_opening_55 ?_
            refine g_getI (ci := 10) (j := 15) rfl (Nat.le_of_ble_eq_true rfl) (Nat.le_of_ble_eq_true rfl) (Nat.le_of_ble_eq_true rfl) rfl fl_X11_62 eX11_opening_56 ?_
            refine g_ild5 eX11_opening_59 ?_
            refine g_isub eX11_opening_61 ?_
            refine g_putI (ci := 10) (j := 15) rfl rfl (Nat.le_of_ble_eq_true rfl) (Nat.le_of_ble_eq_true rfl) (Nat.le_of_ble_eq_true rfl) rfl fl_X11_62 eX11_opening_62 ?_
            refine g_ild4 eX11_opening_65 ?_
            refine g_ild3 eX11_opening_67 ?_
            refine g_iconst (v := 2) (by decide) eX11_opening_68 ?_
            refine g_iconst (v := 2) (by decide) eX11_opening_69 ?_
            refine g_ild2 eX11_opening_70 ?_
            refine g_imul eX11_opening_71 ?_
            refine g_iconst (v := 1) (by decide) eX11_opening_72 ?_
            refine g_iadd eX11_opening_73 ?_
            refine g_callSi (m_drawn _ seed 2 _ (by rw [e2b]; omega)) cs_X11_122 eX11_opening_74 ⟨Nat.le_of_ble_eq_true rfl, Nat.le_of_ble_eq_true rfl⟩ rfl rfl (Nat.le_of_ble_eq_true rfl) (fun w u hw => ?_)
            obtain ⟨rfl, hw⟩ := hw
            rw [e2b] at hw
            have hv0 : 0 ≤ v.toInt := by clear hw hlr; omega
            generalize hLO : lotF seed 2 (2 * a.toInt + 1) = LO at hw hlr
            have hlo : LO < 11 := by clear hw; omega
            have e4 := add_noise v w a LO ⟨hv0, hvr⟩ hw ⟨hlr.1, hlo⟩ hva
            refine g_iadd eX11_opening_77 ?_
            refine g_ild2 eX11_opening_78 ?_
            refine g_isub eX11_opening_79 ?_
            refine g_i2l eX11_opening_80 ?_
            refine g_ald0 eX11_opening_81 ?_
            refine g_getI (ci := 10) (j := 0) rfl (Nat.le_of_ble_eq_true rfl) (Nat.le_of_ble_eq_true rfl) (Nat.le_of_ble_eq_true rfl) rfl fl_X11_65 eX11_opening_82 ?_
            rw [sI_1, if_neg (by decide)]
            refine g_callSi (m_rest _ _ _ (by have := h5.1; omega)) cs_X11_202 eX11_opening_85 ⟨Nat.le_of_ble_eq_true rfl, Nat.le_of_ble_eq_true rfl⟩ rfl rfl (Nat.le_of_ble_eq_true rfl) (fun z u hz => ?_)
            obtain ⟨rfl, hz⟩ := hz
            rw [tl, e4] at hz
            refine g_iret rfl eX11_opening_88 ⟨_, rfl, ?_⟩
            try dsimp only
            rw [if_pos hC, ← hv, if_neg (by omega), if_neg (by omega)]
            refine ⟨by unfold opgF; rw [hLO]; exact hz, _, ?_, rfl⟩
            rw [fb_subI] <;> rw [teq] <;> omega
          · rw [fa_le, teq] at hlt
            refine g_bipush (v := (-4)) (by decide) eX11_opening_51 ?_
            refine g_iret rfl eX11_opening_53 ⟨_, rfl, ?_⟩
            try dsimp only
            rw [if_pos hC, ← hv, if_neg (by omega), if_pos (by omega)]
            exact ⟨rfl, rfl⟩
        · simp only [fa_le, Int32.reduceToInt] at hvn
          refine g_ild4 eX11_opening_31 ?_
          refine g_iret rfl eX11_opening_33 ⟨_, rfl, ?_⟩
          try dsimp only
          rw [if_pos hC, ← hv, if_pos (by omega)]
          exact ⟨rfl, rfl⟩
      · simp only [fa_le, Int32.reduceToInt] at hb2
        refine g_iconst (v := (-1)) (by decide) eX11_opening_17 ?_
        refine g_iret rfl eX11_opening_18 ⟨_, rfl, ?_⟩
        try dsimp only
        rw [if_neg (fun h => by omega)]
        exact ⟨rfl, rfl⟩
end CLSC
