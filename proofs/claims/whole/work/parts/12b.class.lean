/-! SealedSums: masks, works, anew, noise, openings -/
section CLSB
variable {l : Launch} {D : va_G} {cy : Nat → ClassId}
/-- a row more, of key k, from d, with C and bound -/
def adX (st : St) (n k : Nat) (d : Int32) (C B : Int) (r : Int32) (u : St) : Prop := r = nI n ∧ ∃ c b : Int32, c.toInt = C ∧ b.toInt = B ∧ u = addX st n (nI k) c b d
noncomputable abbrev fC (st : St) (i : Nat) (m : Int) (seed : Int32) : Int := freshF (st.1 (83 + 3 * i) 0).toInt (st.1 (83 + 3 * i) 1).toInt (st.1 (83 + 3 * i) 2).toInt (st.1 0 0).toInt m seed
abbrev fB (st : St) (i : Nat) : Int := (st.1 0 0).toInt * (st.1 (83 + 3 * i) 2).toInt + (st.1 0 0).toInt - 1
abbrev rK (st : St) (a : Int32) : Nat := (st.1 18 a.toInt.toNat).toInt.toNat
abbrev rC (st : St) (a : Int32) : Int := (st.1 19 a.toInt.toNat).toInt
abbrev rB (st : St) (a : Int32) : Int := (st.1 20 a.toInt.toNat).toInt
abbrev isS (n : Nat) (a : Int32) : Prop := 0 ≤ a.toInt ∧ a.toInt < (n : Int)
theorem m_mask (st : St) {nk n : Nat} (hx : xOK st nk n) (k m0 seed : Int32) : Mi l D cy 4 YX11_mask [.ref 0, .int k, .int m0, .int seed] st (fun r u => if (alvX st k.toInt ∧ 0 ≤ m0.toInt ∧ m0.toInt < (st.1 0 0).toInt) ∧ n ≠ 60 then adX st n k.toInt.toNat 0 (fC st k.toInt.toNat m0.toInt seed) (fB st k.toInt.toNat) r u else r = -1 ∧ u = st) := by
  have hx0 := hx
  obtain ⟨h1, h2, h3, h4, h5, h6, h7, h8⟩ := hx
  have hk4 : (st.1 0 7).toInt ≤ 4 := by rw [h1, nI_toInt (by omega)]; omega
  refine M.ofG [some (.ref 0), some (.int k), some (.int m0), some (.int seed)] (by decide) (Nat.le_of_ble_eq_true rfl) rfl ?_
  intro xp xe xs xm xa xb xme xc xad xA
  refine g_ald0 eX11_mask_0 ?_
  refine g_ild1 eX11_mask_1 ?_
  refine g_callVi (ci := 10) (m_isAlive _ k hk4) rfl (Nat.le_of_ble_eq_true rfl) (Nat.le_of_ble_eq_true rfl) rfl cv_X11_136 eX11_mask_2 ⟨Nat.le_of_ble_eq_true rfl, Nat.le_of_ble_eq_true rfl⟩ rfl rfl (Nat.le_of_ble_eq_true rfl) (fun r st h => ?_)
  obtain ⟨rfl, rfl⟩ := h
  refine g_if_eq eX11_mask_5 (fun hb => ?_) (fun hb => ?_)
  · rw [b2_eq0] at hb
    refine g_iconst (v := (-1)) (by decide) eX11_mask_16 ?_
    refine g_iret rfl eX11_mask_17 ⟨_, rfl, ?_⟩
    try dsimp only
    rw [if_neg (fun h => hb h.1.1)]
    exact ⟨rfl, rfl⟩
  · rw [b2_ne0] at hb
    refine g_ald0 eX11_mask_8 ?_
    refine g_ild2 eX11_mask_9 ?_
    refine g_callVi (ci := 10) (m_isPlain _ m0) rfl (Nat.le_of_ble_eq_true rfl) (Nat.le_of_ble_eq_true rfl) rfl cv_X11_144 eX11_mask_10 ⟨Nat.le_of_ble_eq_true rfl, Nat.le_of_ble_eq_true rfl⟩ rfl rfl (Nat.le_of_ble_eq_true rfl) (fun r st h => ?_)
    obtain ⟨rfl, rfl⟩ := h
    refine g_if_ne eX11_mask_13 (fun hc => ?_) (fun hc => ?_)
    · rw [b2_ne0] at hc
      obtain ⟨i, hi, rfl⟩ := as_nI (x := k) (n := nk) (by have := hb.1; rw [h1, nI_toInt (by omega)] at this; exact this)
      have ht : (nI i).toInt = i := nI_toInt (by omega)
      have e : (nI i).toInt.toNat = i := by omega
      refine g_ald0 eX11_mask_18 ?_
      refine g_ild1 eX11_mask_19 ?_
      refine g_ild2 eX11_mask_20 ?_
      refine g_ild3 eX11_mask_21 ?_
      refine g_iconst (v := 0) (by decide) eX11_mask_22 ?_
      refine g_callVi (ci := 10) (m_addFresh _ hx0 hi m0 seed 0 (by omega)) rfl (Nat.le_of_ble_eq_true rfl) (Nat.le_of_ble_eq_true rfl) rfl cv_X11_147 eX11_mask_23 ⟨Nat.le_of_ble_eq_true rfl, Nat.le_of_ble_eq_true rfl⟩ rfl rfl (Nat.le_of_ble_eq_true rfl) (fun r u h => ?_)
      refine g_iret rfl eX11_mask_26 ⟨_, rfl, ?_⟩
      try dsimp only
      by_cases hn : n = 60
      · rw [if_neg (fun h => h.2 hn)]
        rw [if_pos hn] at h
        exact h
      · rw [if_pos ⟨⟨hb, hc⟩, hn⟩, e]
        rw [if_neg hn] at h
        exact h
    · rw [b2_eq0] at hc
      refine g_iconst (v := (-1)) (by decide) eX11_mask_16 ?_
      refine g_iret rfl eX11_mask_17 ⟨_, rfl, ?_⟩
      try dsimp only
      rw [if_neg (fun h => hc h.1.2)]
      exact ⟨rfl, rfl⟩
set_option maxHeartbeats 4000000 in
theorem m_work (st : St) {nk n : Nat} (hx : xOK st nk n) (k a b : Int32) : Mi l D cy 3 YX11_work [.ref 0, .int k, .int a, .int b] st (fun r u => if ((0 ≤ k.toInt ∧ k.toInt ≤ 2) ∧ isS n a ∧ isS n b ∧ rK st a = rK st b ∧ alvX st (rK st a)) ∧ n ≠ 60 then adX st n (rK st a) (k + 1) (workF (k.toInt + 1) (rC st a) (rC st b) ((st.1 (83 + 3 * rK st a) 0).toInt * (st.1 (83 + 3 * rK st a) 1).toInt)) (boundF (k.toInt + 1) (rB st a) (rB st b)) r u else r = -1 ∧ u = st) := by
  have hx0 := hx
  obtain ⟨h1, h2, h3, h4, h5, h6, h7, h8⟩ := hx
  have hk4 : (st.1 0 7).toInt ≤ 4 := by rw [h1, nI_toInt (by omega)]; omega
  have hcn : (st.1 17 4).toInt = n := by rw [h3, nI_toInt (by omega)]
  refine M.ofG [some (.ref 0), some (.int k), some (.int a), some (.int b)] (by decide) (Nat.le_of_ble_eq_true rfl) rfl ?_
  intro xp xe xs xm xa xb xme xc xad xA
  have bad : ¬ ((0 ≤ k.toInt ∧ k.toInt ≤ 2) ∧ isS n a ∧ isS n b) → G xp l xe (rmd (3)) xs xm xa xb xme xc D cy xad xA (YX11_work.2.1, YX11_work.1.cls, YX11_work.2.2.1, YX11_work.2.2.2) (Pi (fun (r : Int32) (u : St) => if ((0 ≤ k.toInt ∧ k.toInt ≤ 2) ∧ isS n a ∧ isS n b ∧ rK st a = rK st b ∧ alvX st (rK st a)) ∧ n ≠ 60 then adX st n (rK st a) (k + 1) (workF (k.toInt + 1) (rC st a) (rC st b) ((st.1 (83 + 3 * rK st a) 0).toInt * (st.1 (83 + 3 * rK st a) 1).toInt)) (boundF (k.toInt + 1) (rB st a) (rB st b)) r u else r = -1 ∧ u = st)) 25 ([some (.ref 0), some (.int k), some (.int a), some (.int b)]) ([]) (st) := by
    intro hn
    refine g_iconst (v := (-1)) (by decide) eX11_work_25 ?_
    refine g_iret rfl eX11_work_26 ⟨_, rfl, ?_⟩
    try dsimp only
    rw [if_neg (fun h => hn ⟨h.1.1, h.1.2.1, h.1.2.2.1⟩)]
    exact ⟨rfl, rfl⟩
  refine g_ild1 eX11_work_0 ?_
  refine g_if_lt eX11_work_1 (fun hb => ?_) (fun hb => ?_)
  · simp only [fa_lt, Int32.reduceToInt] at hb
    exact bad (fun h => by omega)
  · simp only [fa_lt, Int32.reduceToInt] at hb
    refine g_ild1 eX11_work_4 ?_
    refine g_iconst (v := 2) (by decide) eX11_work_5 ?_
    refine g_icmp_gt eX11_work_6 (fun hb2 => ?_) (fun hb2 => ?_)
    · simp only [fa_lt, Int32.reduceToInt] at hb2
      exact bad (fun h => by omega)
    · simp only [fa_lt, Int32.reduceToInt] at hb2
      refine g_ald0 eX11_work_9 ?_
      refine g_ild2 eX11_work_10 ?_
      refine g_callVi (ci := 10) (m_isSealed _ a) rfl (Nat.le_of_ble_eq_true rfl) (Nat.le_of_ble_eq_true rfl) rfl cv_X11_151 eX11_work_11 ⟨Nat.le_of_ble_eq_true rfl, Nat.le_of_ble_eq_true rfl⟩ rfl rfl (Nat.le_of_ble_eq_true rfl) (fun r st h => ?_)
      obtain ⟨rfl, rfl⟩ := h
      refine g_if_eq eX11_work_14 (fun ha => ?_) (fun ha => ?_)
      · rw [b2_eq0, hcn] at ha
        exact bad (fun h => ha h.2.1)
      · rw [b2_ne0, hcn] at ha
        refine g_ald0 eX11_work_17 ?_
        refine g_ild3 eX11_work_18 ?_
        refine g_callVi (ci := 10) (m_isSealed _ b) rfl (Nat.le_of_ble_eq_true rfl) (Nat.le_of_ble_eq_true rfl) rfl cv_X11_151 eX11_work_19 ⟨Nat.le_of_ble_eq_true rfl, Nat.le_of_ble_eq_true rfl⟩ rfl rfl (Nat.le_of_ble_eq_true rfl) (fun r st h => ?_)
        obtain ⟨rfl, rfl⟩ := h
        refine g_if_ne eX11_work_22 (fun hbb => ?_) (fun hbb => ?_)
        · rw [b2_ne0, hcn] at hbb
          obtain ⟨a9, ha9, rfl⟩ := as_nI ha
          obtain ⟨b9, hb9, rfl⟩ := as_nI hbb
          have hca : (nI a9).toNatClampNeg = a9 := nI_clamp (by omega)
          have hcb : (nI b9).toNatClampNeg = b9 := nI_clamp (by omega)
          have eta : (nI a9).toInt.toNat = a9 := hca
          have etb : (nI b9).toInt.toNat = b9 := hcb
          obtain ⟨i, hi, hki⟩ := h7 a9 ha9
          obtain ⟨j, hj, hkj⟩ := h7 b9 hb9
          have eki : (nI i).toInt = i := nI_toInt (by omega)
          have ekj : (nI j).toInt = j := nI_toInt (by omega)
          have rKa : rK st (nI a9) = i := by show (st.1 18 (nI a9).toInt.toNat).toInt.toNat = i; rw [eta, hki]; omega
          have rKb : rK st (nI b9) = j := by show (st.1 18 (nI b9).toInt.toNat).toInt.toNat = j; rw [etb, hkj]; omega
          refine g_ald0 eX11_work_27 ?_
          refine g_getR (ci := 10) (j := 8) rfl (Nat.le_of_ble_eq_true rfl) (Nat.le_of_ble_eq_true rfl) (Nat.le_of_ble_eq_true rfl) rfl rfl fl_X11_39 eX11_work_28 ?_
          refine g_getR (ci := 7) (j := 0) rfl (Nat.le_of_ble_eq_true rfl) (Nat.le_of_ble_eq_true rfl) (Nat.le_of_ble_eq_true rfl) rfl rfl fl_X11_154 eX11_work_31 ?_
          refine g_ild2 eX11_work_34 ?_
          refine g_iald rfl (Nat.le_of_ble_eq_true rfl) (rowIx ha9 h4) eX11_work_35 ?_
          refine g_ald0 eX11_work_36 ?_
          refine g_getR (ci := 10) (j := 8) rfl (Nat.le_of_ble_eq_true rfl) (Nat.le_of_ble_eq_true rfl) (Nat.le_of_ble_eq_true rfl) rfl rfl fl_X11_39 eX11_work_37 ?_
          refine g_getR (ci := 7) (j := 0) rfl (Nat.le_of_ble_eq_true rfl) (Nat.le_of_ble_eq_true rfl) (Nat.le_of_ble_eq_true rfl) rfl rfl fl_X11_154 eX11_work_40 ?_
          refine g_ild3 eX11_work_43 ?_
          refine g_iald rfl (Nat.le_of_ble_eq_true rfl) (rowIx hb9 h4) eX11_work_44 ?_
          rw [hca, hcb, hki, hkj]
          refine g_icmp_ne eX11_work_45 (fun hne => ?_) (fun hne => ?_)
          · refine g_iconst (v := (-1)) (by decide) eX11_work_64 ?_
            refine g_iret rfl eX11_work_65 ⟨_, rfl, ?_⟩
            try dsimp only
            rw [if_neg (fun h => hne (by have := h.1.2.2.2.1; rw [rKa, rKb] at this; rw [this]))]
            exact ⟨rfl, rfl⟩
          · have hij : i = j := by rw [fa_eq, eki, ekj] at hne; omega
            subst hij
            refine g_ald0 eX11_work_48 ?_
            refine g_ald0 eX11_work_49 ?_
            refine g_getR (ci := 10) (j := 8) rfl (Nat.le_of_ble_eq_true rfl) (Nat.le_of_ble_eq_true rfl) (Nat.le_of_ble_eq_true rfl) rfl rfl fl_X11_39 eX11_work_50 ?_
            refine g_getR (ci := 7) (j := 0) rfl (Nat.le_of_ble_eq_true rfl) (Nat.le_of_ble_eq_true rfl) (Nat.le_of_ble_eq_true rfl) rfl rfl fl_X11_154 eX11_work_53 ?_
            refine g_ild2 eX11_work_56 ?_
            refine g_iald rfl (Nat.le_of_ble_eq_true rfl) (rowIx ha9 h4) eX11_work_57 ?_
            rw [hca, hki]
            refine g_callVi (ci := 10) (m_isAlive _ (nI i) hk4) rfl (Nat.le_of_ble_eq_true rfl) (Nat.le_of_ble_eq_true rfl) rfl cv_X11_136 eX11_work_58 ⟨Nat.le_of_ble_eq_true rfl, Nat.le_of_ble_eq_true rfl⟩ rfl rfl (Nat.le_of_ble_eq_true rfl) (fun r st h => ?_)
            obtain ⟨rfl, rfl⟩ := h
            rw [eki]
            refine g_if_ne eX11_work_61 (fun hal => ?_) (fun hal => ?_)
            · rw [b2_ne0] at hal
              refine g_ald0 eX11_work_66 ?_
              refine g_ild1 eX11_work_67 ?_
              refine g_iconst (v := 1) (by decide) eX11_work_68 ?_
              refine g_iadd eX11_work_69 ?_
              refine g_ild2 eX11_work_70 ?_
              refine g_ald0 eX11_work_71 ?_
              refine g_getR (ci := 10) (j := 8) rfl (Nat.le_of_ble_eq_true rfl) (Nat.le_of_ble_eq_true rfl) (Nat.le_of_ble_eq_true rfl) rfl rfl fl_X11_39 eX11_work_72 ?_
              refine g_getR (ci := 7) (j := 1) rfl (Nat.le_of_ble_eq_true rfl) (Nat.le_of_ble_eq_true rfl) (Nat.le_of_ble_eq_true rfl) rfl rfl fl_X11_157 eX11_work_75 ?_
              refine g_ild3 eX11_work_78 ?_
              refine g_iald rfl (Nat.le_of_ble_eq_true rfl) (rowIx hb9 h4) eX11_work_79 ?_
              refine g_ald0 eX11_work_80 ?_
              refine g_getR (ci := 10) (j := 8) rfl (Nat.le_of_ble_eq_true rfl) (Nat.le_of_ble_eq_true rfl) (Nat.le_of_ble_eq_true rfl) rfl rfl fl_X11_39 eX11_work_81 ?_
              refine g_getR (ci := 7) (j := 2) rfl (Nat.le_of_ble_eq_true rfl) (Nat.le_of_ble_eq_true rfl) (Nat.le_of_ble_eq_true rfl) rfl rfl fl_X11_160 eX11_work_84 ?_
              refine g_ild3 eX11_work_87 ?_
              refine g_iald rfl (Nat.le_of_ble_eq_true rfl) (rowIx hb9 h4) eX11_work_88 ?_
              rw [hcb]
              have ek1 : (k + 1).toInt = k.toInt + 1 := by rw [fb_addI] <;> rw [o32] <;> omega
              refine g_callVi (ci := 10) (m_addWorked _ hx0 (k + 1) a9 ha9 hi hki _ _) rfl (Nat.le_of_ble_eq_true rfl) (Nat.le_of_ble_eq_true rfl) rfl cv_X11_163 eX11_work_89 ⟨Nat.le_of_ble_eq_true rfl, Nat.le_of_ble_eq_true rfl⟩ rfl rfl (Nat.le_of_ble_eq_true rfl) (fun r u h => ?_)
              refine g_iret rfl eX11_work_92 ⟨_, rfl, ?_⟩
              try dsimp only
              by_cases hn : n = 60
              · rw [if_neg (fun h => h.2 hn)]
                rw [if_pos hn] at h
                exact h
              · rw [if_pos ⟨⟨by omega, ha, hbb, by rw [rKa, rKb], by rw [rKa]; exact hal⟩, hn⟩, rKa]
                rw [if_neg hn, ek1] at h
                unfold adX
                show r = nI n ∧ ∃ c b : Int32, c.toInt = workF (k.toInt + 1) (st.1 19 (nI a9).toInt.toNat).toInt (st.1 19 (nI b9).toInt.toNat).toInt _ ∧ b.toInt = boundF (k.toInt + 1) (st.1 20 (nI a9).toInt.toNat).toInt (st.1 20 (nI b9).toInt.toNat).toInt ∧ u = addX st n (nI i) c b (k + 1)
                rw [eta, etb]
                exact h
            · rw [b2_eq0] at hal
              refine g_iconst (v := (-1)) (by decide) eX11_work_64 ?_
              refine g_iret rfl eX11_work_65 ⟨_, rfl, ?_⟩
              try dsimp only
              rw [if_neg (fun h => hal (by have := h.1.2.2.2.2; rw [rKa] at this; exact this))]
              exact ⟨rfl, rfl⟩
        · rw [b2_eq0, hcn] at hbb
          exact bad (fun h => hbb h.2.2)
set_option maxHeartbeats 4000000 in
theorem m_plain (st : St) {nk n : Nat} (hx : xOK st nk n) (k a z : Int32) : Mi l D cy 3 YX11_plain [.ref 0, .int k, .int a, .int z] st (fun r u => if (isS n a ∧ alvX st (rK st a) ∧ plainWk (st.1 0 0).toInt k.toInt z.toInt) ∧ n ≠ 60 then adX st n (rK st a) (k + 1) (workF (k.toInt + 1) (rC st a) z.toInt ((st.1 (83 + 3 * rK st a) 0).toInt * (st.1 (83 + 3 * rK st a) 1).toInt)) (boundF (k.toInt + 1) (rB st a) z.toInt) r u else r = -1 ∧ u = st) := by
  have hx0 := hx
  obtain ⟨h1, h2, h3, h4, h5, h6, h7, h8⟩ := hx
  have hk4 : (st.1 0 7).toInt ≤ 4 := by rw [h1, nI_toInt (by omega)]; omega
  have hcn : (st.1 17 4).toInt = n := by rw [h3, nI_toInt (by omega)]
  refine M.ofG [some (.ref 0), some (.int k), some (.int a), some (.int z)] (by decide) (Nat.le_of_ble_eq_true rfl) rfl ?_
  intro xp xe xs xm xa xb xme xc xad xA
  refine g_ald0 eX11_plain_0 ?_
  refine g_ild2 eX11_plain_1 ?_
  refine g_callVi (ci := 10) (m_isSealed _ a) rfl (Nat.le_of_ble_eq_true rfl) (Nat.le_of_ble_eq_true rfl) rfl cv_X11_151 eX11_plain_2 ⟨Nat.le_of_ble_eq_true rfl, Nat.le_of_ble_eq_true rfl⟩ rfl rfl (Nat.le_of_ble_eq_true rfl) (fun r st h => ?_)
  obtain ⟨rfl, rfl⟩ := h
  refine g_if_eq eX11_plain_5 (fun ha => ?_) (fun ha => ?_)
  · rw [b2_eq0, hcn] at ha
    refine g_iconst (v := (-1)) (by decide) eX11_plain_33 ?_
    refine g_iret rfl eX11_plain_34 ⟨_, rfl, ?_⟩
    try dsimp only
    rw [if_neg (fun h => ha h.1.1)]
    exact ⟨rfl, rfl⟩
  · rw [b2_ne0, hcn] at ha
    obtain ⟨a9, ha9, rfl⟩ := as_nI ha
    have hca : (nI a9).toNatClampNeg = a9 := nI_clamp (by omega)
    have eta : (nI a9).toInt.toNat = a9 := hca
    obtain ⟨i, hi, hki⟩ := h7 a9 ha9
    have eki : (nI i).toInt = i := nI_toInt (by omega)
    have rKa : rK st (nI a9) = i := by show (st.1 18 (nI a9).toInt.toNat).toInt.toNat = i; rw [eta, hki]; omega
    refine g_ald0 eX11_plain_8 ?_
    refine g_ald0 eX11_plain_9 ?_
    refine g_getR (ci := 10) (j := 8) rfl (Nat.le_of_ble_eq_true rfl) (Nat.le_of_ble_eq_true rfl) (Nat.le_of_ble_eq_true rfl) rfl rfl fl_X11_39 eX11_plain_10 ?_
    refine g_getR (ci := 7) (j := 0) rfl (Nat.le_of_ble_eq_true rfl) (Nat.le_of_ble_eq_true rfl) (Nat.le_of_ble_eq_true rfl) rfl rfl fl_X11_154 eX11_plain_13 ?_
    refine g_ild2 eX11_plain_16 ?_
    refine g_iald rfl (Nat.le_of_ble_eq_true rfl) (rowIx ha9 h4) eX11_plain_17 ?_
    rw [hca, hki]
    refine g_callVi (ci := 10) (m_isAlive _ (nI i) hk4) rfl (Nat.le_of_ble_eq_true rfl) (Nat.le_of_ble_eq_true rfl) rfl cv_X11_136 eX11_plain_18 ⟨Nat.le_of_ble_eq_true rfl, Nat.le_of_ble_eq_true rfl⟩ rfl rfl (Nat.le_of_ble_eq_true rfl) (fun r st h => ?_)
    obtain ⟨rfl, rfl⟩ := h
    rw [eki]
    refine g_if_eq eX11_plain_21 (fun hal => ?_) (fun hal => ?_)
    · rw [b2_eq0] at hal
      refine g_iconst (v := (-1)) (by decide) eX11_plain_33 ?_
      refine g_iret rfl eX11_plain_34 ⟨_, rfl, ?_⟩
      try dsimp only
      rw [if_neg (fun h => hal (by have := h.1.2.1; rw [rKa] at this; exact this))]
      exact ⟨rfl, rfl⟩
    · rw [b2_ne0] at hal
      refine g_ald0 eX11_plain_24 ?_
      refine g_ild1 eX11_plain_25 ?_
      refine g_ild3 eX11_plain_26 ?_
      refine g_callVi (ci := 10) (m_isPlainWork _ k z h5) rfl (Nat.le_of_ble_eq_true rfl) (Nat.le_of_ble_eq_true rfl) rfl cv_X11_166 eX11_plain_27 ⟨Nat.le_of_ble_eq_true rfl, Nat.le_of_ble_eq_true rfl⟩ rfl rfl (Nat.le_of_ble_eq_true rfl) (fun r st h => ?_)
      obtain ⟨rfl, rfl⟩ := h
      refine g_if_ne eX11_plain_30 (fun hpw => ?_) (fun hpw => ?_)
      · rw [b2_ne0] at hpw
        have ek1 : (k + 1).toInt = k.toInt + 1 := by rw [fb_addI] <;> rw [o32] <;> omega
        refine g_ald0 eX11_plain_35 ?_
        refine g_ild1 eX11_plain_36 ?_
        refine g_iconst (v := 1) (by decide) eX11_plain_37 ?_
        refine g_iadd eX11_plain_38 ?_
        refine g_ild2 eX11_plain_39 ?_
        refine g_ild3 eX11_plain_40 ?_
        refine g_ild3 eX11_plain_41 ?_
        refine g_callVi (ci := 10) (m_addWorked _ hx0 (k + 1) a9 ha9 hi hki z z) rfl (Nat.le_of_ble_eq_true rfl) (Nat.le_of_ble_eq_true rfl) rfl cv_X11_163 eX11_plain_42 ⟨Nat.le_of_ble_eq_true rfl, Nat.le_of_ble_eq_true rfl⟩ rfl rfl (Nat.le_of_ble_eq_true rfl) (fun r u h => ?_)
        refine g_iret rfl eX11_plain_45 ⟨_, rfl, ?_⟩
        try dsimp only
        by_cases hn : n = 60
        · rw [if_neg (fun h => h.2 hn)]
          rw [if_pos hn] at h
          exact h
        · rw [if_pos ⟨⟨ha, by rw [rKa]; exact hal, hpw⟩, hn⟩, rKa]
          rw [if_neg hn, ek1] at h
          unfold adX
          show r = nI n ∧ ∃ c b : Int32, c.toInt = workF (k.toInt + 1) (st.1 19 (nI a9).toInt.toNat).toInt z.toInt _ ∧ b.toInt = boundF (k.toInt + 1) (st.1 20 (nI a9).toInt.toNat).toInt z.toInt ∧ u = addX st n (nI i) c b (k + 1)
          rw [eta]
          exact h
      · rw [b2_eq0] at hpw
        refine g_iconst (v := (-1)) (by decide) eX11_plain_33 ?_
        refine g_iret rfl eX11_plain_34 ⟨_, rfl, ?_⟩
        try dsimp only
        rw [if_neg (fun h => hpw h.1.2.2)]
        exact ⟨rfl, rfl⟩
theorem nmod_rng (c p : Int) {t : Int} (ht : 2 ≤ t ∧ t ≤ 13) : 0 ≤ noiseF c p % t ∧ noiseF c p % t < 13 := by
  have h1 := Int.emod_nonneg (noiseF c p) (b := t) (by omega)
  have h2 := Int.emod_lt_of_pos (noiseF c p) (b := t) (by omega)
  omega
set_option maxHeartbeats 4000000 in
theorem m_anew (st : St) {nk n : Nat} (hx : xOK st nk n) (a k seed : Int32) : Mi l D cy 4 YX11_anew [.ref 0, .int a, .int k, .int seed] st (fun r u => if n ≠ 60 ∧ isS n a ∧ alvX st k.toInt ∧ alvX st (rK st a) then (if (st.1 (83 + 3 * rK st a) 0).toInt ≤ 2 * rB st a then r = -2 ∧ u = st else adX st n k.toInt.toNat 6 (fC st k.toInt.toNat (noiseF (rC st a) (st.1 (83 + 3 * rK st a) 0).toInt % (st.1 0 0).toInt) seed) (fB st k.toInt.toNat) r u) else r = -1 ∧ u = st) := by
  have hx0 := hx
  obtain ⟨h1, h2, h3, h4, h5, h6, h7, h8⟩ := hx
  have hk4 : (st.1 0 7).toInt ≤ 4 := by rw [h1, nI_toInt (by omega)]; omega
  have hcn : (st.1 17 4).toInt = n := by rw [h3, nI_toInt (by omega)]
  refine M.ofG [some (.ref 0), some (.int a), some (.int k), some (.int seed)] (by decide) (Nat.le_of_ble_eq_true rfl) rfl ?_
  intro xp xe xs xm xa xb xme xc xad xA
  refine g_ald0 eX11_anew_0 ?_
  refine g_getR (ci := 10) (j := 8) rfl (Nat.le_of_ble_eq_true rfl) (Nat.le_of_ble_eq_true rfl) (Nat.le_of_ble_eq_true rfl) rfl rfl fl_X11_39 eX11_anew_1 ?_
  refine g_callVi (ci := 7) (m_isFull _) rfl (Nat.le_of_ble_eq_true rfl) (Nat.le_of_ble_eq_true rfl) rfl cv_X11_170 eX11_anew_4 ⟨Nat.le_of_ble_eq_true rfl, Nat.le_of_ble_eq_true rfl⟩ rfl rfl (Nat.le_of_ble_eq_true rfl) (fun r st h => ?_)
  obtain ⟨rfl, rfl⟩ := h
  rw [hcn]
  refine g_if_ne eX11_anew_7 (fun hf => ?_) (fun hf => ?_)
  · rw [b2_ne0] at hf
    refine g_iconst (v := (-1)) (by decide) eX11_anew_42 ?_
    refine g_iret rfl eX11_anew_43 ⟨_, rfl, ?_⟩
    try dsimp only
    rw [if_neg (fun h => h.1 (by omega))]
    exact ⟨rfl, rfl⟩
  · rw [b2_eq0] at hf
    refine g_ald0 eX11_anew_10 ?_
    refine g_ild1 eX11_anew_11 ?_
    refine g_callVi (ci := 10) (m_isSealed _ a) rfl (Nat.le_of_ble_eq_true rfl) (Nat.le_of_ble_eq_true rfl) rfl cv_X11_151 eX11_anew_12 ⟨Nat.le_of_ble_eq_true rfl, Nat.le_of_ble_eq_true rfl⟩ rfl rfl (Nat.le_of_ble_eq_true rfl) (fun r st h => ?_)
    obtain ⟨rfl, rfl⟩ := h
    refine g_if_eq eX11_anew_15 (fun ha => ?_) (fun ha => ?_)
    · rw [b2_eq0, hcn] at ha
      refine g_iconst (v := (-1)) (by decide) eX11_anew_42 ?_
      refine g_iret rfl eX11_anew_43 ⟨_, rfl, ?_⟩
      try dsimp only
      rw [if_neg (fun h => ha h.2.1)]
      exact ⟨rfl, rfl⟩
    · rw [b2_ne0, hcn] at ha
      obtain ⟨a9, ha9, rfl⟩ := as_nI ha
      have hca : (nI a9).toNatClampNeg = a9 := nI_clamp (by omega)
      have eta : (nI a9).toInt.toNat = a9 := hca
      obtain ⟨i, hi, hki⟩ := h7 a9 ha9
      have eki : (nI i).toInt = i := nI_toInt (by omega)
      have rKa : rK st (nI a9) = i := by show (st.1 18 (nI a9).toInt.toNat).toInt.toNat = i; rw [eta, hki]; omega
      refine g_ald0 eX11_anew_18 ?_
      refine g_ild2 eX11_anew_19 ?_
      refine g_callVi (ci := 10) (m_isAlive _ k hk4) rfl (Nat.le_of_ble_eq_true rfl) (Nat.le_of_ble_eq_true rfl) rfl cv_X11_136 eX11_anew_20 ⟨Nat.le_of_ble_eq_true rfl, Nat.le_of_ble_eq_true rfl⟩ rfl rfl (Nat.le_of_ble_eq_true rfl) (fun r st h => ?_)
      obtain ⟨rfl, rfl⟩ := h
      refine g_if_eq eX11_anew_23 (fun hal => ?_) (fun hal => ?_)
      · rw [b2_eq0] at hal
        refine g_iconst (v := (-1)) (by decide) eX11_anew_42 ?_
        refine g_iret rfl eX11_anew_43 ⟨_, rfl, ?_⟩
        try dsimp only
        rw [if_neg (fun h => hal h.2.2.1)]
        exact ⟨rfl, rfl⟩
      · rw [b2_ne0] at hal
        refine g_ald0 eX11_anew_26 ?_
        refine g_ald0 eX11_anew_27 ?_
        refine g_getR (ci := 10) (j := 8) rfl (Nat.le_of_ble_eq_true rfl) (Nat.le_of_ble_eq_true rfl) (Nat.le_of_ble_eq_true rfl) rfl rfl fl_X11_39 eX11_anew_28 ?_
        refine g_getR (ci := 7) (j := 0) rfl (Nat.le_of_ble_eq_true rfl) (Nat.le_of_ble_eq_true rfl) (Nat.le_of_ble_eq_true rfl) rfl rfl fl_X11_154 eX11_anew_31 ?_
        refine g_ild1 eX11_anew_34 ?_
        refine g_iald rfl (Nat.le_of_ble_eq_true rfl) (rowIx ha9 h4) eX11_anew_35 ?_
        rw [hca, hki]
        refine g_callVi (ci := 10) (m_isAlive _ (nI i) hk4) rfl (Nat.le_of_ble_eq_true rfl) (Nat.le_of_ble_eq_true rfl) rfl cv_X11_136 eX11_anew_36 ⟨Nat.le_of_ble_eq_true rfl, Nat.le_of_ble_eq_true rfl⟩ rfl rfl (Nat.le_of_ble_eq_true rfl) (fun r st h => ?_)
        obtain ⟨rfl, rfl⟩ := h
        rw [eki]
        refine g_if_ne eX11_anew_39 (fun hal2 => ?_) (fun hal2 => ?_)
        · rw [b2_ne0] at hal2
          refine g_ald0 eX11_anew_44 ?_
          refine g_ild1 eX11_anew_45 ?_
          refine g_callVi (ci := 10) (m_isDrowned _ hx0 a9 ha9 hi hki) rfl (Nat.le_of_ble_eq_true rfl) (Nat.le_of_ble_eq_true rfl) rfl cv_X11_173 eX11_anew_46 ⟨Nat.le_of_ble_eq_true rfl, Nat.le_of_ble_eq_true rfl⟩ rfl rfl (Nat.le_of_ble_eq_true rfl) (fun r st h => ?_)
          obtain ⟨rfl, rfl⟩ := h
          have hcond : n ≠ 60 ∧ isS n (nI a9) ∧ alvX st k.toInt ∧ alvX st (rK st (nI a9)) := ⟨by omega, ha, hal, by rw [rKa]; exact hal2⟩
          have erB : rB st (nI a9) = (st.1 20 a9).toInt := by show (st.1 20 (nI a9).toInt.toNat).toInt = _; rw [eta]
          have erC : rC st (nI a9) = (st.1 19 a9).toInt := by show (st.1 19 (nI a9).toInt.toNat).toInt = _; rw [eta]
          refine g_if_eq eX11_anew_49 (fun hd => ?_) (fun hd => ?_)
          · rw [b2_eq0] at hd
            obtain ⟨j, hj, rfl⟩ := as_nI (x := k) (n := nk) (by have := hal.1; rw [h1, nI_toInt (by omega)] at this; exact this)
            have ekj : (nI j).toInt.toNat = j := nI_clamp (by omega)
            refine g_ald0 eX11_anew_55 ?_
            refine g_ild2 eX11_anew_56 ?_
            refine g_ald0 eX11_anew_57 ?_
            refine g_ild1 eX11_anew_58 ?_
            refine g_callVi (ci := 10) (m_opened _ hx0 a9 ha9 hi hki) rfl (Nat.le_of_ble_eq_true rfl) (Nat.le_of_ble_eq_true rfl) rfl cv_X11_176 eX11_anew_59 ⟨Nat.le_of_ble_eq_true rfl, Nat.le_of_ble_eq_true rfl⟩ rfl rfl (Nat.le_of_ble_eq_true rfl) (fun o st ho => ?_)
            obtain ⟨rfl, ho⟩ := ho
            have hor := nmod_rng (st.1 19 a9).toInt (st.1 (83 + 3 * i) 0).toInt h5
            refine g_ild3 eX11_anew_62 ?_
            refine g_bipush (v := 6) (by decide) eX11_anew_63 ?_
            refine g_callVi (ci := 10) (m_addFresh _ hx0 hj o seed 6 (by omega)) rfl (Nat.le_of_ble_eq_true rfl) (Nat.le_of_ble_eq_true rfl) rfl cv_X11_147 eX11_anew_65 ⟨Nat.le_of_ble_eq_true rfl, Nat.le_of_ble_eq_true rfl⟩ rfl rfl (Nat.le_of_ble_eq_true rfl) (fun r u h => ?_)
            refine g_iret rfl eX11_anew_68 ⟨_, rfl, ?_⟩
            try dsimp only
            rw [if_pos hcond, rKa, erB, if_neg hd, ekj, erC]
            rw [if_neg (by omega), ho] at h
            exact h
          · rw [b2_ne0] at hd
            refine g_bipush (v := (-2)) (by decide) eX11_anew_52 ?_
            refine g_iret rfl eX11_anew_54 ⟨_, rfl, ?_⟩
            try dsimp only
            rw [if_pos hcond, rKa, erB, if_pos hd]
            exact ⟨rfl, rfl⟩
        · rw [b2_eq0] at hal2
          refine g_iconst (v := (-1)) (by decide) eX11_anew_42 ?_
          refine g_iret rfl eX11_anew_43 ⟨_, rfl, ?_⟩
          try dsimp only
          rw [if_neg (fun h => hal2 (by have := h.2.2.2; rw [rKa] at this; exact this))]
          exact ⟨rfl, rfl⟩
theorem m_noise (st : St) {nk n : Nat} (hx : xOK st nk n) (a : Int32) : Mi l D cy 2 YX11_noise [.ref 0, .int a] st (fun r u => u = st ∧ r.toInt = if isS n a then noiseF (rC st a) (st.1 (83 + 3 * rK st a) 0).toInt else -1000000) := by
  obtain ⟨h1, h2, h3, h4, h5, h6, h7, h8⟩ := hx
  have hcn : (st.1 17 4).toInt = n := by rw [h3, nI_toInt (by omega)]
  refine M.ofG [some (.ref 0), some (.int a)] (by decide) (Nat.le_of_ble_eq_true rfl) rfl ?_
  intro xp xe xs xm xa xb xme xc xad xA
  refine g_ald0 eX11_noise_0 ?_
  refine g_ild1 eX11_noise_1 ?_
  refine g_callVi (ci := 10) (m_isSealed _ a) (by first | rfl | exact kd_key hi | exact kd_sh hi | exact kd_ya hi | exact kd_pr hq | exact kd_pk hq | exact kd_pf hq | exact kd_ps hq | exact kd_po hq | exact kd_pr hq2 | exact kd_pk hq2 | exact kd_pf hq2 | exact kd_ps hq2 | exact kd_po hq2) (by first | decide | (unfold N0; omega)) (Nat.le_of_ble_eq_true rfl) rfl cv_X11_151 eX11_noise_2 ⟨Nat.le_of_ble_eq_true rfl, Nat.le_of_ble_eq_true rfl⟩ rfl rfl (Nat.le_of_ble_eq_true rfl) (fun r st h => ?_)
  obtain ⟨rfl, rfl⟩ := h
  refine g_if_eq eX11_noise_5 (fun ha => ?_) (fun ha => ?_)
  · rw [b2_eq0, hcn] at ha
    refine g_ldc kc_X11_198 eX11_noise_37 ?_
    refine g_iret rfl eX11_noise_39 ⟨_, rfl, ?_⟩
    try dsimp only
    rw [if_neg ha]
    exact ⟨rfl, rfl⟩
  · rw [b2_ne0, hcn] at ha
    rw [if_pos ha]
    obtain ⟨a9, ha9, rfl⟩ := as_nI ha
    have hca : (nI a9).toNatClampNeg = a9 := nI_clamp (by omega)
    have eta : (nI a9).toInt.toNat = a9 := hca
    obtain ⟨i, hi9, hki⟩ := h7 a9 ha9
    have hi : i < 4 := by omega
    have eki : (nI i).toInt = i := nI_toInt (by omega)
    have rKa : rK st (nI a9) = i := by show (st.1 18 (nI a9).toInt.toNat).toInt.toNat = i; rw [eta, hki]; omega
    have erC : rC st (nI a9) = (st.1 19 a9).toInt := by show (st.1 19 (nI a9).toInt.toNat).toInt = _; rw [eta]
    refine g_ald0 eX11_noise_8 ?_
    refine g_getR (ci := 10) (j := 6) (by first | rfl | exact kd_key hi | exact kd_sh hi | exact kd_ya hi | exact kd_pr hq | exact kd_pk hq | exact kd_pf hq | exact kd_ps hq | exact kd_po hq | exact kd_pr hq2 | exact kd_pk hq2 | exact kd_pf hq2 | exact kd_ps hq2 | exact kd_po hq2) (by first | decide | (unfold N0; omega)) (Nat.le_of_ble_eq_true rfl) (Nat.le_of_ble_eq_true rfl) rfl (by first | rfl | exact r_key4 hi | exact r_sh0 hi | exact r_p0 hq | exact r_p1 hq | exact r_p2 hq | exact r_p3 hq | exact r_p0 hq2 | exact r_p1 hq2 | exact r_p2 hq2 | exact r_p3 hq2) fl_X11_29 eX11_noise_9 ?_
    refine g_ald0 eX11_noise_12 ?_
    refine g_getR (ci := 10) (j := 8) (by first | rfl | exact kd_key hi | exact kd_sh hi | exact kd_ya hi | exact kd_pr hq | exact kd_pk hq | exact kd_pf hq | exact kd_ps hq | exact kd_po hq | exact kd_pr hq2 | exact kd_pk hq2 | exact kd_pf hq2 | exact kd_ps hq2 | exact kd_po hq2) (by first | decide | (unfold N0; omega)) (Nat.le_of_ble_eq_true rfl) (Nat.le_of_ble_eq_true rfl) rfl (by first | rfl | exact r_key4 hi | exact r_sh0 hi | exact r_p0 hq | exact r_p1 hq | exact r_p2 hq | exact r_p3 hq | exact r_p0 hq2 | exact r_p1 hq2 | exact r_p2 hq2 | exact r_p3 hq2) fl_X11_39 eX11_noise_13 ?_
    refine g_getR (ci := 7) (j := 0) (by first | rfl | exact kd_key hi | exact kd_sh hi | exact kd_ya hi | exact kd_pr hq | exact kd_pk hq | exact kd_pf hq | exact kd_ps hq | exact kd_po hq | exact kd_pr hq2 | exact kd_pk hq2 | exact kd_pf hq2 | exact kd_ps hq2 | exact kd_po hq2) (by first | decide | (unfold N0; omega)) (Nat.le_of_ble_eq_true rfl) (Nat.le_of_ble_eq_true rfl) rfl (by first | rfl | exact r_key4 hi | exact r_sh0 hi | exact r_p0 hq | exact r_p1 hq | exact r_p2 hq | exact r_p3 hq | exact r_p0 hq2 | exact r_p1 hq2 | exact r_p2 hq2 | exact r_p3 hq2) fl_X11_154 eX11_noise_16 ?_
    refine g_ild1 eX11_noise_19 ?_
    refine g_iald (by first | rfl | exact kd_key hi | exact kd_sh hi | exact kd_ya hi | exact kd_pr hq | exact kd_pk hq | exact kd_pf hq | exact kd_ps hq | exact kd_po hq | exact kd_pr hq2 | exact kd_pk hq2 | exact kd_pf hq2 | exact kd_ps hq2 | exact kd_po hq2) (by first | decide | (unfold N0; omega)) (rowIx ha9 h4) eX11_noise_20 ?_
    rw [hca, hki]
    refine g_aald (by decide) (Nat.le_of_ble_eq_true rfl) (keyIx hi).1 (keyIx hi).2 eX11_noise_21 ?_
    refine g_ald0 eX11_noise_22 ?_
    refine g_getR (ci := 10) (j := 8) (by first | rfl | exact kd_key hi | exact kd_sh hi | exact kd_ya hi | exact kd_pr hq | exact kd_pk hq | exact kd_pf hq | exact kd_ps hq | exact kd_po hq | exact kd_pr hq2 | exact kd_pk hq2 | exact kd_pf hq2 | exact kd_ps hq2 | exact kd_po hq2) (by first | decide | (unfold N0; omega)) (Nat.le_of_ble_eq_true rfl) (Nat.le_of_ble_eq_true rfl) rfl (by first | rfl | exact r_key4 hi | exact r_sh0 hi | exact r_p0 hq | exact r_p1 hq | exact r_p2 hq | exact r_p3 hq | exact r_p0 hq2 | exact r_p1 hq2 | exact r_p2 hq2 | exact r_p3 hq2) fl_X11_39 eX11_noise_23 ?_
    refine g_getR (ci := 7) (j := 1) (by first | rfl | exact kd_key hi | exact kd_sh hi | exact kd_ya hi | exact kd_pr hq | exact kd_pk hq | exact kd_pf hq | exact kd_ps hq | exact kd_po hq | exact kd_pr hq2 | exact kd_pk hq2 | exact kd_pf hq2 | exact kd_ps hq2 | exact kd_po hq2) (by first | decide | (unfold N0; omega)) (Nat.le_of_ble_eq_true rfl) (Nat.le_of_ble_eq_true rfl) rfl (by first | rfl | exact r_key4 hi | exact r_sh0 hi | exact r_p0 hq | exact r_p1 hq | exact r_p2 hq | exact r_p3 hq | exact r_p0 hq2 | exact r_p1 hq2 | exact r_p2 hq2 | exact r_p3 hq2) fl_X11_157 eX11_noise_26 ?_
    refine g_ild1 eX11_noise_29 ?_
    refine g_iald (by first | rfl | exact kd_key hi | exact kd_sh hi | exact kd_ya hi | exact kd_pr hq | exact kd_pk hq | exact kd_pf hq | exact kd_ps hq | exact kd_po hq | exact kd_pr hq2 | exact kd_pk hq2 | exact kd_pf hq2 | exact kd_ps hq2 | exact kd_po hq2) (by first | decide | (unfold N0; omega)) (rowIx ha9 h4) eX11_noise_30 ?_
    rw [hca]
    refine g_callVi (ci := 2) (m_noiseOf _ hi (h6 i hi9) _) (by first | rfl | exact kd_key hi | exact kd_sh hi | exact kd_ya hi | exact kd_pr hq | exact kd_pk hq | exact kd_pf hq | exact kd_ps hq | exact kd_po hq | exact kd_pr hq2 | exact kd_pk hq2 | exact kd_pf hq2 | exact kd_ps hq2 | exact kd_po hq2) (by first | decide | (unfold N0; omega)) (Nat.le_of_ble_eq_true rfl) rfl cv_X11_195 eX11_noise_31 ⟨Nat.le_of_ble_eq_true rfl, Nat.le_of_ble_eq_true rfl⟩ rfl rfl (Nat.le_of_ble_eq_true rfl) (fun r st h => ?_)
    obtain ⟨rfl, h⟩ := h
    refine g_goto eX11_noise_34 ?_
    exact g_iret rfl eX11_noise_39 ⟨_, rfl, ⟨rfl, by rw [h, rKa, erC]⟩⟩
/-- what open tells -/
def opX (st : St) (n : Nat) (a : Int32) : Int := if isS n a then (if alvX st (rK st a) then (if (st.1 (83 + 3 * rK st a) 0).toInt ≤ 2 * rB st a then -2 else noiseF (rC st a) (st.1 (83 + 3 * rK st a) 0).toInt % (st.1 0 0).toInt) else -3) else -1
theorem m_open (st : St) {nk n : Nat} (hx : xOK st nk n) (a : Int32) : Mi l D cy 4 YX11_open [.ref 0, .int a] st (fun r u => u = st ∧ r.toInt = opX st n a) := by
  have hx0 := hx
  obtain ⟨h1, h2, h3, h4, h5, h6, h7, h8⟩ := hx
  have hk4 : (st.1 0 7).toInt ≤ 4 := by rw [h1, nI_toInt (by omega)]; omega
  have hcn : (st.1 17 4).toInt = n := by rw [h3, nI_toInt (by omega)]
  refine M.ofG [some (.ref 0), some (.int a)] (by decide) (Nat.le_of_ble_eq_true rfl) rfl ?_
  intro xp xe xs xm xa xb xme xc xad xA
  refine g_ald0 eX11_open_0 ?_
  refine g_ild1 eX11_open_1 ?_
  refine g_callVi (ci := 10) (m_isSealed _ a) rfl (Nat.le_of_ble_eq_true rfl) (Nat.le_of_ble_eq_true rfl) rfl cv_X11_151 eX11_open_2 ⟨Nat.le_of_ble_eq_true rfl, Nat.le_of_ble_eq_true rfl⟩ rfl rfl (Nat.le_of_ble_eq_true rfl) (fun r st h => ?_)
  obtain ⟨rfl, rfl⟩ := h
  refine g_if_ne eX11_open_5 (fun ha => ?_) (fun ha => ?_)
  · rw [b2_ne0, hcn] at ha
    unfold opX
    rw [if_pos ha]
    obtain ⟨a9, ha9, rfl⟩ := as_nI ha
    have hca : (nI a9).toNatClampNeg = a9 := nI_clamp (by omega)
    have eta : (nI a9).toInt.toNat = a9 := hca
    obtain ⟨i, hi, hki⟩ := h7 a9 ha9
    have eki : (nI i).toInt = i := nI_toInt (by omega)
    have rKa : rK st (nI a9) = i := by show (st.1 18 (nI a9).toInt.toNat).toInt.toNat = i; rw [eta, hki]; omega
    have erC : rC st (nI a9) = (st.1 19 a9).toInt := by show (st.1 19 (nI a9).toInt.toNat).toInt = _; rw [eta]
    have erB : rB st (nI a9) = (st.1 20 a9).toInt := by show (st.1 20 (nI a9).toInt.toNat).toInt = _; rw [eta]
    rw [rKa, erC, erB]
    refine g_ald0 eX11_open_10 ?_
    refine g_ald0 eX11_open_11 ?_
    refine g_getR (ci := 10) (j := 8) rfl (Nat.le_of_ble_eq_true rfl) (Nat.le_of_ble_eq_true rfl) (Nat.le_of_ble_eq_true rfl) rfl rfl fl_X11_39 eX11_open_12 ?_
    refine g_getR (ci := 7) (j := 0) rfl (Nat.le_of_ble_eq_true rfl) (Nat.le_of_ble_eq_true rfl) (Nat.le_of_ble_eq_true rfl) rfl rfl fl_X11_154 eX11_open_15 ?_
    refine g_ild1 eX11_open_18 ?_
    refine g_iald rfl (Nat.le_of_ble_eq_true rfl) (rowIx ha9 h4) eX11_open_19 ?_
    rw [hca, hki]
    refine g_callVi (ci := 10) (m_isAlive _ (nI i) hk4) rfl (Nat.le_of_ble_eq_true rfl) (Nat.le_of_ble_eq_true rfl) rfl cv_X11_136 eX11_open_20 ⟨Nat.le_of_ble_eq_true rfl, Nat.le_of_ble_eq_true rfl⟩ rfl rfl (Nat.le_of_ble_eq_true rfl) (fun r st h => ?_)
    obtain ⟨rfl, rfl⟩ := h
    rw [eki]
    refine g_if_ne eX11_open_23 (fun hal => ?_) (fun hal => ?_)
    · rw [b2_ne0] at hal
      rw [if_pos hal]
      refine g_ald0 eX11_open_29 ?_
      refine g_ild1 eX11_open_30 ?_
      refine g_callVi (ci := 10) (m_isDrowned _ hx0 a9 ha9 hi hki) rfl (Nat.le_of_ble_eq_true rfl) (Nat.le_of_ble_eq_true rfl) rfl cv_X11_173 eX11_open_31 ⟨Nat.le_of_ble_eq_true rfl, Nat.le_of_ble_eq_true rfl⟩ rfl rfl (Nat.le_of_ble_eq_true rfl) (fun r st h => ?_)
      obtain ⟨rfl, rfl⟩ := h
      refine g_if_eq eX11_open_34 (fun hd => ?_) (fun hd => ?_)
      · rw [b2_eq0] at hd
        rw [if_neg hd]
        refine g_ald0 eX11_open_42 ?_
        refine g_ild1 eX11_open_43 ?_
        refine g_callVi (ci := 10) (m_opened _ hx0 a9 ha9 hi hki) rfl (Nat.le_of_ble_eq_true rfl) (Nat.le_of_ble_eq_true rfl) rfl cv_X11_176 eX11_open_44 ⟨Nat.le_of_ble_eq_true rfl, Nat.le_of_ble_eq_true rfl⟩ rfl rfl (Nat.le_of_ble_eq_true rfl) (fun o st ho => ?_)
        obtain ⟨rfl, ho⟩ := ho
        exact g_iret rfl eX11_open_47 ⟨_, rfl, ⟨rfl, ho⟩⟩
      · rw [b2_ne0] at hd
        rw [if_pos hd]
        refine g_bipush (v := (-2)) (by decide) eX11_open_37 ?_
        refine g_goto eX11_open_39 ?_
        exact g_iret rfl eX11_open_47 ⟨_, rfl, ⟨rfl, rfl⟩⟩
    · rw [b2_eq0] at hal
      rw [if_neg hal]
      refine g_bipush (v := (-3)) (by decide) eX11_open_26 ?_
      exact g_iret rfl eX11_open_28 ⟨_, rfl, ⟨rfl, rfl⟩⟩
  · rw [b2_eq0, hcn] at ha
    refine g_iconst (v := (-1)) (by decide) eX11_open_8 ?_
    refine g_iret rfl eX11_open_9 ⟨_, rfl, ?_⟩
    try dsimp only
    unfold opX
    rw [if_neg ha]
    exact ⟨rfl, rfl⟩
end CLSB
