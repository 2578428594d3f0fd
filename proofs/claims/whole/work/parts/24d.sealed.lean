/-! SEALED: the class and the model -/
def slV (st : St) (j : Nat) (w : Int32) : Int32 := if w.toInt = 0 then st.1 18 j else if w.toInt = 1 then st.1 19 j else if w.toInt = 2 then st.1 20 j else if w.toInt = 3 then b2 (kP st (st.1 18 j).toInt.toNat ≤ 2 * (st.1 20 j).toInt) else st.1 21 j
section SEAL
variable {l : Launch} {D : va_G} {cy : Nat → ClassId} {st : St} {t nk n np nt : Nat}
theorem qI_nI {j : Nat} (h : j < 2 ^ 31) : qI (nI j) = j := by
  show (nI j).toInt.toNat = j
  rw [nI_toInt h]
  rfl
theorem m_sealed (hl : l.stackTraces = false) (h : Rel st t nk n np nt) (a w : Int32) : MX l D cy YX11_sealed [.ref 0, .int a, .int w] st (Pi (fun r u => u = st ∧ (isS n a ∧ 0 ≤ w.toInt ∧ w.toInt ≤ 4) ∧ r = slV st (qI a) w)) (fun E => (¬ isS n a ∧ E = nseC) ∨ ((isS n a ∧ ¬ (0 ≤ w.toInt ∧ w.toInt ≤ 4)) ∧ E = iaeC)) := by
  obtain ⟨h1, h2, h3, -⟩ := id h
  have hx := xOK_of h2 h3
  have h60 := h3.2.1
  have hcn : (st.1 17 4).toInt = (n : Int) := by rw [h3.1, nI_toInt (by omega)]
  refine MX.ofG [some (.ref 0), some (.int a), some (.int w)] (by decide) (Nat.le_of_ble_eq_true rfl) rfl ?_
  intro xp xe xs xm xa xb xme xc xad xA hXS hno
  have hk : (0 : Nat) ≤ rmS.cells ∧ 0 ≤ rmS.slots := ⟨Nat.zero_le _, Nat.zero_le _⟩
  refine n_ald0 eX11_sealed_0 ?_
  refine n_ild1 eX11_sealed_1 ?_
  refine q_callVi (ci := 10) (m_isSealed st a) rfl (Nat.le_of_ble_eq_true rfl) (Nat.le_of_ble_eq_true rfl) rfl cv_X11_151 eX11_sealed_2 ⟨Nat.le_of_ble_eq_true rfl, Nat.le_of_ble_eq_true rfl⟩ rfl rfl (Nat.le_of_ble_eq_true rfl) hk (fun r u q => ?_)
  obtain ⟨e, q⟩ := q
  rw [e, q]
  refine n_if_ne eX11_sealed_5 (fun hb => ?_) (fun hb => ?_)
  · have hs := b2_ne0.mp hb
    rw [hcn] at hs
    obtain ⟨j, hj, ej⟩ : ∃ j, j < n ∧ a = nI j := ⟨a.toInt.toNat, by omega, (nI_back hs.1).symm⟩
    subst ej
    have hisS : isS n (nI j) := hs
    have hq : qI (nI j) = j := qI_nI (by omega)
    have hin : vp_in (nI j) 60 := vp_in_nI (by omega) (by decide)
    have hcl : (nI j).toNatClampNeg = j := nI_clamp (by omega)
    obtain ⟨i, hi, ei⟩ := hx.2.2.2.2.2.2.1 j hj
    have hi4 := h2.2.1.2.1
    rw [hq]
    refine n_ild2 eX11_sealed_18 ?_
    by_cases w0 : w.toInt = 0
    · refine n_tableIn (off := 33) (tgt := 52) eX11_sealed_19 (by omega) (by omega) (by rw [w0]; rfl) (by decide) ?_
      refine n_ald0 eX11_sealed_52 ?_
      refine q_getR (ci := 10) (j := 8) rfl (Nat.le_of_ble_eq_true rfl) (Nat.le_of_ble_eq_true rfl) (Nat.le_of_ble_eq_true rfl) rfl rfl fl_X11_39 eX11_sealed_53 ?_
      refine q_getR (ci := 7) (j := 0) rfl (Nat.le_of_ble_eq_true rfl) (Nat.le_of_ble_eq_true rfl) (Nat.le_of_ble_eq_true rfl) rfl rfl fl_X11_154 eX11_sealed_56 ?_
      refine n_ild1 eX11_sealed_59 ?_
      refine q_iald rfl (Nat.le_of_ble_eq_true rfl) hin eX11_sealed_60 ?_
      rw [hcl]
      refine qx_ret rfl eX11_sealed_61 ⟨_, rfl, rfl, ⟨hisS, by omega, by omega⟩, ?_⟩
      unfold slV
      rw [if_pos w0]
    by_cases w1 : w.toInt = 1
    · refine n_tableIn (off := 43) (tgt := 62) eX11_sealed_19 (by omega) (by omega) (by rw [w1]; rfl) (by decide) ?_
      refine n_ald0 eX11_sealed_62 ?_
      refine q_getR (ci := 10) (j := 8) rfl (Nat.le_of_ble_eq_true rfl) (Nat.le_of_ble_eq_true rfl) (Nat.le_of_ble_eq_true rfl) rfl rfl fl_X11_39 eX11_sealed_63 ?_
      refine q_getR (ci := 7) (j := 1) rfl (Nat.le_of_ble_eq_true rfl) (Nat.le_of_ble_eq_true rfl) (Nat.le_of_ble_eq_true rfl) rfl rfl fl_X11_157 eX11_sealed_66 ?_
      refine n_ild1 eX11_sealed_69 ?_
      refine q_iald rfl (Nat.le_of_ble_eq_true rfl) hin eX11_sealed_70 ?_
      rw [hcl]
      refine qx_ret rfl eX11_sealed_71 ⟨_, rfl, rfl, ⟨hisS, by omega, by omega⟩, ?_⟩
      unfold slV
      rw [if_neg w0, if_pos w1]
    by_cases w2 : w.toInt = 2
    · refine n_tableIn (off := 53) (tgt := 72) eX11_sealed_19 (by omega) (by omega) (by rw [w2]; rfl) (by decide) ?_
      refine n_ald0 eX11_sealed_72 ?_
      refine q_getR (ci := 10) (j := 8) rfl (Nat.le_of_ble_eq_true rfl) (Nat.le_of_ble_eq_true rfl) (Nat.le_of_ble_eq_true rfl) rfl rfl fl_X11_39 eX11_sealed_73 ?_
      refine q_getR (ci := 7) (j := 2) rfl (Nat.le_of_ble_eq_true rfl) (Nat.le_of_ble_eq_true rfl) (Nat.le_of_ble_eq_true rfl) rfl rfl fl_X11_160 eX11_sealed_76 ?_
      refine n_ild1 eX11_sealed_79 ?_
      refine q_iald rfl (Nat.le_of_ble_eq_true rfl) hin eX11_sealed_80 ?_
      rw [hcl]
      refine qx_ret rfl eX11_sealed_81 ⟨_, rfl, rfl, ⟨hisS, by omega, by omega⟩, ?_⟩
      unfold slV
      rw [if_neg w0, if_neg w1, if_pos w2]
    by_cases w3 : w.toInt = 3
    · refine n_tableIn (off := 63) (tgt := 82) eX11_sealed_19 (by omega) (by omega) (by rw [w3]; rfl) (by decide) ?_
      refine n_ald0 eX11_sealed_82 ?_
      refine n_ild1 eX11_sealed_83 ?_
      refine q_callVi (ci := 10) (m_isDrowned st hx j hj hi ei) rfl (Nat.le_of_ble_eq_true rfl) (Nat.le_of_ble_eq_true rfl) rfl cv_X11_173 eX11_sealed_84 ⟨Nat.le_of_ble_eq_true rfl, Nat.le_of_ble_eq_true rfl⟩ rfl rfl (Nat.le_of_ble_eq_true rfl) hk (fun r u q => ?_)
      obtain ⟨e, q⟩ := q
      rw [e, q]
      have eV : slV st j w = b2 ((st.1 (83 + 3 * i) 0).toInt ≤ 2 * (st.1 20 j).toInt) := by
        unfold slV
        rw [if_neg w0, if_neg w1, if_neg w2, if_pos w3, ei, nI_toInt (by omega)]
        rfl
      refine n_if_eq eX11_sealed_87 (fun hb3 => ?_) (fun hb3 => ?_)
      · refine n_iconst (v := 0) (by decide) eX11_sealed_94 ?_
        refine qx_ret rfl eX11_sealed_95 ⟨_, rfl, rfl, ⟨hisS, by omega, by omega⟩, ?_⟩
        rw [eV, hb3]
      · refine n_iconst (v := 1) (by decide) eX11_sealed_90 ?_
        refine n_goto eX11_sealed_91 ?_
        refine qx_ret rfl eX11_sealed_95 ⟨_, rfl, rfl, ⟨hisS, by omega, by omega⟩, ?_⟩
        rw [eV]
        exact b2_t (b2_ne0.mp hb3)
    by_cases w4 : w.toInt = 4
    · refine n_tableIn (off := 77) (tgt := 96) eX11_sealed_19 (by omega) (by omega) (by rw [w4]; rfl) (by decide) ?_
      refine n_ald0 eX11_sealed_96 ?_
      refine q_getR (ci := 10) (j := 8) rfl (Nat.le_of_ble_eq_true rfl) (Nat.le_of_ble_eq_true rfl) (Nat.le_of_ble_eq_true rfl) rfl rfl fl_X11_39 eX11_sealed_97 ?_
      refine q_getR (ci := 7) (j := 3) rfl (Nat.le_of_ble_eq_true rfl) (Nat.le_of_ble_eq_true rfl) (Nat.le_of_ble_eq_true rfl) rfl rfl fl_X11_187 eX11_sealed_100 ?_
      refine n_ild1 eX11_sealed_103 ?_
      refine q_iald rfl (Nat.le_of_ble_eq_true rfl) hin eX11_sealed_104 ?_
      rw [hcl]
      refine qx_ret rfl eX11_sealed_105 ⟨_, rfl, rfl, ⟨hisS, by omega, by omega⟩, ?_⟩
      unfold slV
      rw [if_neg w0, if_neg w1, if_neg w2, if_neg w3]
    refine n_tableOut (tgt := 106) eX11_sealed_19 (by omega) (by decide) ?_
    exact qx_iae hl hXS hno (Or.inr ⟨⟨hisS, by omega⟩, rfl⟩) (by decide) rfl eX11_sealed_106.1 eX11_sealed_109.1 eX11_sealed_110.1 eX11_sealed_112.1 eX11_sealed_115
  · have hs := b2_eq0.mp hb
    rw [hcn] at hs
    exact qx_nse hl hXS hno (Or.inl ⟨hs, rfl⟩) (by decide) rfl eX11_sealed_8.1 eX11_sealed_11.1 eX11_sealed_12.1 eX11_sealed_14.1 eX11_sealed_17
theorem l2i_is {x : Int64} {c : Int32} (h : x.toInt = c.toInt) : x.toInt32 = c := by
  have e : x = c.toInt64 := Int64.toInt_inj.mp (by rw [Int32.toInt_toInt64]; exact h)
  rw [e]
  exact Int32.toInt32_toInt64 c
theorem w_sealed (st0 s1 : St) (hT : sI st0 31 18 0 = s1) (h : Rel st t nk n np nt) (ag : agM st s1) (a w : Int32) : Mi l D cy 1 YX12_sealed [.ref 31, .int a, .int w] st0 (fun r u => (¬ isS n a → u = sI s1 31 18 1 ∧ r = 0) ∧ (isS n a → ¬ (0 ≤ w.toInt ∧ w.toInt ≤ 4) → u = sI s1 31 18 2 ∧ r = 0) ∧ (isS n a → 0 ≤ w.toInt ∧ w.toInt ≤ 4 → u = s1 ∧ r = slV st (qI a) w)) := by
  obtain ⟨h1, h2, h3, -⟩ := id h
  have h60 := h3.2.1
  have e58 : (s1.1 31 58).toInt = (n : Int) := by rw [ag.1 31 58 (by omega), h3.2.2.1, nI_toInt (by omega)]
  refine M.ofG [some (.ref 31), some (.int a), some (.int w)] (by decide) (Nat.le_of_ble_eq_true rfl) rfl ?_
  intro xp xe xs xm xa xb xme xc xad xA
  have s18 : s1.1 31 18 = 0 := by rw [← hT]; rfl
  refine g_ald0 eX12_sealed_0 ?_
  refine g_iconst (v := 0) (by decide) eX12_sealed_1 ?_
  refine g_putI (ci := 11) (j := 18) rfl rfl (Nat.le_of_ble_eq_true rfl) (Nat.le_of_ble_eq_true rfl) (Nat.le_of_ble_eq_true rfl) rfl fl_X12_177 eX12_sealed_2 ?_
  rw [hT]
  refine g_ald0 eX12_sealed_5 ?_
  refine g_ild1 eX12_sealed_6 ?_
  refine g_callVi (ci := 11) (w_isSealed s1 a) rfl (Nat.le_of_ble_eq_true rfl) (Nat.le_of_ble_eq_true rfl) rfl cv_X12_436 eX12_sealed_7 ⟨Nat.le_of_ble_eq_true rfl, Nat.le_of_ble_eq_true rfl⟩ rfl rfl (Nat.le_of_ble_eq_true rfl) (fun r u q => ?_)
  obtain ⟨e, q⟩ := q
  rw [e, q, e58]
  refine g_if_ne eX12_sealed_10 (fun hb => ?_) (fun hb => ?_)
  · have hs : isS n a := b2_ne0.mp hb
    refine g_ild2 eX12_sealed_21 ?_
    refine g_iconst (v := 0) (by decide) eX12_sealed_22 ?_
    refine g_iconst (v := 4) (by decide) eX12_sealed_23 ?_
    refine g_callSi (w_in s1 w 0 4) cs_X12_378 eX12_sealed_24 ⟨Nat.le_of_ble_eq_true rfl, Nat.le_of_ble_eq_true rfl⟩ rfl rfl (Nat.le_of_ble_eq_true rfl) (fun r u q => ?_)
    obtain ⟨e, q⟩ := q
    rw [e, q]
    refine g_if_ne eX12_sealed_27 (fun hb2 => ?_) (fun hb2 => ?_)
    · have hw : 0 ≤ w.toInt ∧ w.toInt ≤ 4 := b2_ne0.mp hb2
      obtain ⟨j, hj, ej⟩ : ∃ j, j < n ∧ a = nI j := ⟨a.toInt.toNat, by omega, (nI_back hs.1).symm⟩
      subst ej
      have hq : qI (nI j) = j := qI_nI (by omega)
      have hin : vp_in (nI j) 60 := vp_in_nI (by omega) (by decide)
      have hcl : (nI j).toNatClampNeg = j := nI_clamp (by omega)
      obtain ⟨⟨⟨i, hi, ei⟩, ek⟩, ⟨b1, b2x, b3⟩, ⟨c1, c2, c3⟩, ed⟩ := h3.2.2.2 j hj
      have hi4 := h2.2.1.2.1
      have fin : ∀ r : Int32, r = slV st j w → (¬ isS n (nI j) → s1 = sI s1 31 18 1 ∧ r = 0) ∧ (isS n (nI j) → ¬ (0 ≤ w.toInt ∧ w.toInt ≤ 4) → s1 = sI s1 31 18 2 ∧ r = 0) ∧ (isS n (nI j) → 0 ≤ w.toInt ∧ w.toInt ≤ 4 → s1 = s1 ∧ r = slV st (qI (nI j)) w) := fun r hr => ⟨fun z => absurd hs z, fun _ z => absurd hw z, fun _ _ => ⟨rfl, by rw [hq]; exact hr⟩⟩
      refine g_ald0 eX12_sealed_35 ?_
      refine g_getI (ci := 11) (j := 18) rfl (Nat.le_of_ble_eq_true rfl) (Nat.le_of_ble_eq_true rfl) (Nat.le_of_ble_eq_true rfl) rfl fl_X12_177 eX12_sealed_36 ?_
      rw [s18]
      refine g_if_eq eX12_sealed_39 (fun hb3 => ?_) (fun hb3 => ?_)
      · refine g_ild2 eX12_sealed_44 ?_
        by_cases w0 : w.toInt = 0
        · refine g_tableIn (off := 31) (tgt := 76) eX12_sealed_45 (by omega) (by omega) (by rw [w0]; rfl) (by decide) ?_
          refine g_ald0 eX12_sealed_76 ?_
          refine g_getR (ci := 11) (j := 59) rfl (Nat.le_of_ble_eq_true rfl) (Nat.le_of_ble_eq_true rfl) (Nat.le_of_ble_eq_true rfl) rfl rfl fl_X12_122 eX12_sealed_77 ?_
          refine g_ild1 eX12_sealed_80 ?_
          refine g_iald rfl (Nat.le_of_ble_eq_true rfl) hin eX12_sealed_81 ?_
          rw [hcl, ag.1 67 j (by omega), ek]
          refine g_iret rfl eX12_sealed_82 ⟨_, rfl, ?_⟩
          try dsimp only
          refine fin _ ?_
          unfold slV
          rw [if_pos w0]
        by_cases w1 : w.toInt = 1
        · refine g_tableIn (off := 38) (tgt := 83) eX12_sealed_45 (by omega) (by omega) (by rw [w1]; rfl) (by decide) ?_
          refine g_ald0 eX12_sealed_83 ?_
          refine g_getR (ci := 11) (j := 60) rfl (Nat.le_of_ble_eq_true rfl) (Nat.le_of_ble_eq_true rfl) (Nat.le_of_ble_eq_true rfl) rfl rfl fl_X12_125 eX12_sealed_84 ?_
          refine g_ild1 eX12_sealed_87 ?_
          refine g_lald rfl (Nat.le_of_ble_eq_true rfl) hin eX12_sealed_88 ?_
          refine g_l2i eX12_sealed_89 ?_
          rw [hcl, ag.2 68 (by omega), l2i_is c3]
          refine g_iret rfl eX12_sealed_90 ⟨_, rfl, ?_⟩
          try dsimp only
          refine fin _ ?_
          unfold slV
          rw [if_neg w0, if_pos w1]
        by_cases w2 : w.toInt = 2
        · refine g_tableIn (off := 46) (tgt := 91) eX12_sealed_45 (by omega) (by omega) (by rw [w2]; rfl) (by decide) ?_
          refine g_ald0 eX12_sealed_91 ?_
          refine g_getR (ci := 11) (j := 61) rfl (Nat.le_of_ble_eq_true rfl) (Nat.le_of_ble_eq_true rfl) (Nat.le_of_ble_eq_true rfl) rfl rfl fl_X12_128 eX12_sealed_92 ?_
          refine g_ild1 eX12_sealed_95 ?_
          refine g_lald rfl (Nat.le_of_ble_eq_true rfl) hin eX12_sealed_96 ?_
          refine g_l2i eX12_sealed_97 ?_
          rw [hcl, ag.2 69 (by omega), l2i_is b3]
          refine g_iret rfl eX12_sealed_98 ⟨_, rfl, ?_⟩
          try dsimp only
          refine fin _ ?_
          unfold slV
          rw [if_neg w0, if_neg w1, if_pos w2]
        by_cases w3 : w.toInt = 3
        · refine g_tableIn (off := 54) (tgt := 99) eX12_sealed_45 (by omega) (by omega) (by rw [w3]; rfl) (by decide) ?_
          refine g_ald0 eX12_sealed_99 ?_
          refine g_ald0 eX12_sealed_100 ?_
          refine g_getR (ci := 11) (j := 59) rfl (Nat.le_of_ble_eq_true rfl) (Nat.le_of_ble_eq_true rfl) (Nat.le_of_ble_eq_true rfl) rfl rfl fl_X12_122 eX12_sealed_101 ?_
          refine g_ild1 eX12_sealed_104 ?_
          refine g_iald rfl (Nat.le_of_ble_eq_true rfl) hin eX12_sealed_105 ?_
          refine g_ald0 eX12_sealed_106 ?_
          refine g_getR (ci := 11) (j := 61) rfl (Nat.le_of_ble_eq_true rfl) (Nat.le_of_ble_eq_true rfl) (Nat.le_of_ble_eq_true rfl) rfl rfl fl_X12_128 eX12_sealed_107 ?_
          refine g_ild1 eX12_sealed_110 ?_
          refine g_lald rfl (Nat.le_of_ble_eq_true rfl) hin eX12_sealed_111 ?_
          rw [hcl, ag.1 67 j (by omega), ag.2 69 (by omega), ek, ei]
          refine g_callVi (ci := 11) (w_isDrowned s1 i (by omega) (st.2 69 j) (by rw [b3]; exact ⟨b1, b2x⟩)) rfl (Nat.le_of_ble_eq_true rfl) (Nat.le_of_ble_eq_true rfl) rfl cv_X12_446 eX12_sealed_112 ⟨Nat.le_of_ble_eq_true rfl, Nat.le_of_ble_eq_true rfl⟩ rfl rfl (Nat.le_of_ble_eq_true rfl) (fun r u q => ?_)
          obtain ⟨e, q⟩ := q
          rw [e, q]
          have eV : slV st j w = b2 ((s1.1 63 i).toInt ≤ 2 * (st.2 69 j).toInt) := by
            unfold slV
            rw [if_neg w0, if_neg w1, if_neg w2, if_pos w3, ei, nI_toInt (by omega), ag.1 63 i (by omega), b3, (h2.2.2 i hi).2.2.1.1]
            rfl
          refine g_if_eq eX12_sealed_115 (fun hb4 => ?_) (fun hb4 => ?_)
          · refine g_iconst (v := 0) (by decide) eX12_sealed_122 ?_
            refine g_iret rfl eX12_sealed_123 ⟨_, rfl, ?_⟩
            try dsimp only
            refine fin _ ?_
            rw [eV, hb4]
          · refine g_iconst (v := 1) (by decide) eX12_sealed_118 ?_
            refine g_goto eX12_sealed_119 ?_
            refine g_iret rfl eX12_sealed_123 ⟨_, rfl, ?_⟩
            try dsimp only
            refine fin _ ?_
            rw [eV]
            exact b2_t (b2_ne0.mp hb4)
        refine g_tableOut (tgt := 124) eX12_sealed_45 (by omega) (by decide) ?_
        refine g_ald0 eX12_sealed_124 ?_
        refine g_getR (ci := 11) (j := 62) rfl (Nat.le_of_ble_eq_true rfl) (Nat.le_of_ble_eq_true rfl) (Nat.le_of_ble_eq_true rfl) rfl rfl fl_X12_131 eX12_sealed_125 ?_
        refine g_ild1 eX12_sealed_128 ?_
        refine g_iald rfl (Nat.le_of_ble_eq_true rfl) hin eX12_sealed_129 ?_
        rw [hcl, ag.1 70 j (by omega), ed]
        refine g_iret rfl eX12_sealed_130 ⟨_, rfl, ?_⟩
        try dsimp only
        refine fin _ ?_
        unfold slV
        rw [if_neg w0, if_neg w1, if_neg w2, if_neg w3]
      · exact absurd rfl hb3
    · have hw : ¬ (0 ≤ w.toInt ∧ w.toInt ≤ 4) := b2_eq0.mp hb2
      refine g_ald0 eX12_sealed_30 ?_
      refine g_iconst (v := 2) (by decide) eX12_sealed_31 ?_
      refine g_putI (ci := 11) (j := 18) rfl rfl (Nat.le_of_ble_eq_true rfl) (Nat.le_of_ble_eq_true rfl) (Nat.le_of_ble_eq_true rfl) rfl fl_X12_177 eX12_sealed_32 ?_
      refine g_ald0 eX12_sealed_35 ?_
      refine g_getI (ci := 11) (j := 18) rfl (Nat.le_of_ble_eq_true rfl) (Nat.le_of_ble_eq_true rfl) (Nat.le_of_ble_eq_true rfl) rfl fl_X12_177 eX12_sealed_36 ?_
      rw [show (sI s1 31 18 2).1 31 18 = 2 from rfl]
      refine g_if_eq eX12_sealed_39 (fun hb3 => ?_) (fun hb3 => ?_)
      · exact absurd hb3 (by decide)
      · refine g_iconst (v := 0) (by decide) eX12_sealed_42 ?_
        exact g_iret rfl eX12_sealed_43 ⟨_, rfl, ⟨fun z => absurd hs z, fun _ _ => ⟨rfl, rfl⟩, fun _ z => absurd z hw⟩⟩
  · have hs : ¬ isS n a := b2_eq0.mp hb
    refine g_ald0 eX12_sealed_13 ?_
    refine g_iconst (v := 1) (by decide) eX12_sealed_14 ?_
    refine g_putI (ci := 11) (j := 18) rfl rfl (Nat.le_of_ble_eq_true rfl) (Nat.le_of_ble_eq_true rfl) (Nat.le_of_ble_eq_true rfl) rfl fl_X12_177 eX12_sealed_15 ?_
    refine g_goto eX12_sealed_18 ?_
    refine g_ald0 eX12_sealed_35 ?_
    refine g_getI (ci := 11) (j := 18) rfl (Nat.le_of_ble_eq_true rfl) (Nat.le_of_ble_eq_true rfl) (Nat.le_of_ble_eq_true rfl) rfl fl_X12_177 eX12_sealed_36 ?_
    rw [show (sI s1 31 18 1).1 31 18 = 1 from rfl]
    refine g_if_eq eX12_sealed_39 (fun hb3 => ?_) (fun hb3 => ?_)
    · exact absurd hb3 (by decide)
    · refine g_iconst (v := 0) (by decide) eX12_sealed_42 ?_
      exact g_iret rfl eX12_sealed_43 ⟨_, rfl, ⟨fun _ => ⟨rfl, rfl⟩, fun z => absurd z hs, fun z => absurd z hs⟩⟩
end SEAL
