/-! SealedSumsModel: anew, noise, openings, budget, keys, given -/
section MODD
variable {l : Launch} {D : va_G} {cy : Nat → ClassId}
abbrev oddM (st : St) (nk : Nat) : Prop := ∀ i, i < nk → (st.1 63 i).toInt % 2 = 1
set_option maxHeartbeats 8000000 in
theorem w_anew (st s1 : St) (hT : sI st 31 18 0 = s1) {nk n : Nat} (hx : mOK s1 nk n) (hod : oddM s1 nk) (a k seed : Int32) : Mi l D cy 4 YX12_anew [.ref 31, .int a, .int k, .int seed] st (fun r u => if n ≠ 60 ∧ isS n a ∧ alvM s1 k.toInt ∧ alvM s1 (mK s1 a) then (if mP s1 (mK s1 a) ≤ 2 * mB s1 a then r = -2 ∧ u = s1 else adM s1 n k.toInt.toNat 6 (fCm s1 k.toInt.toNat (noiseF (mC s1 a) (mP s1 (mK s1 a)) % (s1.1 31 17).toInt) seed) (fBm s1 k.toInt.toNat) r u) else r = -1 ∧ u = s1) := by
  obtain ⟨h1, h2, h3, h4, h5, h6, h7, h8, h9⟩ := hx
  have etn : (nI n).toInt = n := nI_toInt (by omega)
  have hcn : (s1.1 31 58).toInt = n := by rw [h3, etn]
  have hck : (s1.1 31 53).toInt = nk := by rw [h1, nI_toInt (by omega)]
  refine M.ofG [some (.ref 31), some (.int a), some (.int k), some (.int seed)] (by decide) (Nat.le_of_ble_eq_true rfl) rfl ?_
  intro xp xe xs xm xa xb xme xc xad xA
  have bad : ¬ (n ≠ 60 ∧ isS n a ∧ alvM s1 k.toInt ∧ alvM s1 (mK s1 a)) → G xp l xe (rmd (4)) xs xm xa xb xme xc D cy xad xA (YX12_anew.2.1, YX12_anew.1.cls, YX12_anew.2.2.1, YX12_anew.2.2.2) (Pi (fun (r : Int32) (u : St) => if n ≠ 60 ∧ isS n a ∧ alvM s1 k.toInt ∧ alvM s1 (mK s1 a) then (if mP s1 (mK s1 a) ≤ 2 * mB s1 a then r = -2 ∧ u = s1 else adM s1 n k.toInt.toNat 6 (fCm s1 k.toInt.toNat (noiseF (mC s1 a) (mP s1 (mK s1 a)) % (s1.1 31 17).toInt) seed) (fBm s1 k.toInt.toNat) r u) else r = -1 ∧ u = s1)) 44 ([some (.ref 31), some (.int a), some (.int k), some (.int seed)]) ([]) (s1) := by
    intro hn
    refine g_iconst (v := (-1)) (by decide) eX12_anew_44 ?_
    refine g_iret rfl eX12_anew_45 ⟨_, rfl, ?_⟩
    try dsimp only
    rw [if_neg hn]
    exact ⟨rfl, rfl⟩
  refine g_ald0 eX12_anew_0 ?_
  refine g_iconst (v := 0) (by decide) eX12_anew_1 ?_
  refine g_putI (ci := 11) (j := 18) rfl rfl (Nat.le_of_ble_eq_true rfl) (Nat.le_of_ble_eq_true rfl) (Nat.le_of_ble_eq_true rfl) rfl fl_X12_177 eX12_anew_2 ?_
  rw [hT]
  refine g_ald0 eX12_anew_5 ?_
  refine g_getI (ci := 11) (j := 58) rfl (Nat.le_of_ble_eq_true rfl) (Nat.le_of_ble_eq_true rfl) (Nat.le_of_ble_eq_true rfl) rfl fl_X12_408 eX12_anew_6 ?_
  refine g_bipush (v := 60) (by decide) eX12_anew_9 ?_
  rw [h3]
  refine g_icmp_eq eX12_anew_11 (fun hf => ?_) (fun hf => ?_)
  · simp only [fa_eq, Int32.reduceToInt, etn] at hf
    exact bad (fun h => h.1 (by omega))
  · simp only [fa_eq, Int32.reduceToInt, etn] at hf
    refine g_ald0 eX12_anew_14 ?_
    refine g_ild1 eX12_anew_15 ?_
    refine g_callVi (ci := 11) (w_isSealed _ a) rfl (Nat.le_of_ble_eq_true rfl) (Nat.le_of_ble_eq_true rfl) rfl cv_X12_436 eX12_anew_16 ⟨Nat.le_of_ble_eq_true rfl, Nat.le_of_ble_eq_true rfl⟩ rfl rfl (Nat.le_of_ble_eq_true rfl) (fun r s1 h => ?_)
    obtain ⟨rfl, rfl⟩ := h
    refine g_if_eq eX12_anew_19 (fun ha => ?_) (fun ha => ?_)
    · rw [b2_eq0, hcn] at ha
      exact bad (fun h => ha h.2.1)
    · rw [b2_ne0, hcn] at ha
      refine g_ald0 eX12_anew_22 ?_
      refine g_ild2 eX12_anew_23 ?_
      refine g_callVi (ci := 11) (w_isAlive _ k (by omega)) rfl (Nat.le_of_ble_eq_true rfl) (Nat.le_of_ble_eq_true rfl) rfl cv_X12_392 eX12_anew_24 ⟨Nat.le_of_ble_eq_true rfl, Nat.le_of_ble_eq_true rfl⟩ rfl rfl (Nat.le_of_ble_eq_true rfl) (fun r s1 h => ?_)
      obtain ⟨rfl, rfl⟩ := h
      refine g_if_eq eX12_anew_27 (fun hal => ?_) (fun hal => ?_)
      · rw [b2_eq0] at hal
        exact bad (fun h => hal h.2.2.1)
      · rw [b2_ne0] at hal
        obtain ⟨a9, ha9, rfl⟩ := as_nI ha
        have hca : (nI a9).toNatClampNeg = a9 := nI_clamp (by omega)
        have eta : (nI a9).toInt.toNat = a9 := hca
        obtain ⟨i, hi, hki⟩ := h7 a9 ha9
        have eki : (nI i).toInt = i := nI_toInt (by omega)
        have hci : (nI i).toNatClampNeg = i := nI_clamp (by omega)
        have mKa : mK s1 (nI a9) = i := by show (s1.1 67 (nI a9).toInt.toNat).toInt.toNat = i; rw [eta, hki]; omega
        have emB : mB s1 (nI a9) = (s1.2 69 a9).toInt := by show (s1.2 69 (nI a9).toInt.toNat).toInt = _; rw [eta]
        have emC : mC s1 (nI a9) = (s1.2 68 a9).toInt := by show (s1.2 68 (nI a9).toInt.toNat).toInt = _; rw [eta]
        refine g_ald0 eX12_anew_30 ?_
        refine g_getR (ci := 11) (j := 57) rfl (Nat.le_of_ble_eq_true rfl) (Nat.le_of_ble_eq_true rfl) (Nat.le_of_ble_eq_true rfl) rfl rfl fl_X12_118 eX12_anew_31 ?_
        refine g_ald0 eX12_anew_34 ?_
        refine g_getR (ci := 11) (j := 59) rfl (Nat.le_of_ble_eq_true rfl) (Nat.le_of_ble_eq_true rfl) (Nat.le_of_ble_eq_true rfl) rfl rfl fl_X12_122 eX12_anew_35 ?_
        refine g_ild1 eX12_anew_38 ?_
        refine g_iald rfl (Nat.le_of_ble_eq_true rfl) (rowIx ha9 h4) eX12_anew_39 ?_
        rw [hca, hki]
        refine g_zald rfl (Nat.le_of_ble_eq_true rfl) (vp_in_nI (n := i) (N := 4) (by omega) (by decide)) eX12_anew_40 ?_
        rw [hci]
        refine g_if_eq eX12_anew_41 (fun hal2 => ?_) (fun hal2 => ?_)
        · have hcond : n ≠ 60 ∧ isS n (nI a9) ∧ alvM s1 k.toInt ∧ alvM s1 (mK s1 (nI a9)) := ⟨by omega, ha, hal, by rw [mKa]; exact ⟨by omega, by rw [Int.toNat_natCast]; exact hal2⟩⟩
          refine g_ald0 eX12_anew_46 ?_
          refine g_ald0 eX12_anew_47 ?_
          refine g_getR (ci := 11) (j := 59) rfl (Nat.le_of_ble_eq_true rfl) (Nat.le_of_ble_eq_true rfl) (Nat.le_of_ble_eq_true rfl) rfl rfl fl_X12_122 eX12_anew_48 ?_
          refine g_ild1 eX12_anew_51 ?_
          refine g_iald rfl (Nat.le_of_ble_eq_true rfl) (rowIx ha9 h4) eX12_anew_52 ?_
          refine g_ald0 eX12_anew_53 ?_
          refine g_getR (ci := 11) (j := 61) rfl (Nat.le_of_ble_eq_true rfl) (Nat.le_of_ble_eq_true rfl) (Nat.le_of_ble_eq_true rfl) rfl rfl fl_X12_128 eX12_anew_54 ?_
          refine g_ild1 eX12_anew_57 ?_
          refine g_lald rfl (Nat.le_of_ble_eq_true rfl) (rowIx ha9 h4) eX12_anew_58 ?_
          rw [hca, hki]
          refine g_callVi (ci := 11) (w_isDrowned _ i (by omega) _ (h8 a9 ha9)) rfl (Nat.le_of_ble_eq_true rfl) (Nat.le_of_ble_eq_true rfl) rfl cv_X12_446 eX12_anew_59 ⟨Nat.le_of_ble_eq_true rfl, Nat.le_of_ble_eq_true rfl⟩ rfl rfl (Nat.le_of_ble_eq_true rfl) (fun r s1 h => ?_)
          obtain ⟨rfl, rfl⟩ := h
          refine g_if_eq eX12_anew_62 (fun hd => ?_) (fun hd => ?_)
          · rw [b2_eq0] at hd
            obtain ⟨j, hj, rfl⟩ := as_nI (x := k) (n := nk) (by have := hal.1; rw [hck] at this; exact this)
            have ekj : (nI j).toInt.toNat = j := nI_clamp (by omega)
            have hfr := fB_rng (h6 j hj) h5
            refine g_ald0 eX12_anew_68 ?_
            refine g_ild2 eX12_anew_69 ?_
            refine g_ald0 eX12_anew_70 ?_
            refine g_ild2 eX12_anew_71 ?_
            refine g_ald0 eX12_anew_72 ?_
            refine g_ald0 eX12_anew_73 ?_
            refine g_getR (ci := 11) (j := 59) rfl (Nat.le_of_ble_eq_true rfl) (Nat.le_of_ble_eq_true rfl) (Nat.le_of_ble_eq_true rfl) rfl rfl fl_X12_122 eX12_anew_74 ?_
            refine g_ild1 eX12_anew_77 ?_
            refine g_iald rfl (Nat.le_of_ble_eq_true rfl) (rowIx ha9 h4) eX12_anew_78 ?_
            refine g_ald0 eX12_anew_79 ?_
            refine g_getR (ci := 11) (j := 60) rfl (Nat.le_of_ble_eq_true rfl) (Nat.le_of_ble_eq_true rfl) (Nat.le_of_ble_eq_true rfl) rfl rfl fl_X12_125 eX12_anew_80 ?_
            refine g_ild1 eX12_anew_83 ?_
            refine g_lald rfl (Nat.le_of_ble_eq_true rfl) (rowIx ha9 h4) eX12_anew_84 ?_
            rw [hca, hki]
            refine g_callVi (ci := 11) (w_opensTo _ i (by omega) (h6 i hi) (hod i hi) h5 _ (h9 a9 ha9).1) rfl (Nat.le_of_ble_eq_true rfl) (Nat.le_of_ble_eq_true rfl) rfl cv_X12_450 eX12_anew_85 ⟨Nat.le_of_ble_eq_true rfl, Nat.le_of_ble_eq_true rfl⟩ rfl rfl (Nat.le_of_ble_eq_true rfl) (fun o s1 ho => ?_)
            obtain ⟨rfl, ho⟩ := ho
            have hor := nmod_rng (s1.2 68 a9).toInt (s1.1 63 i).toInt h5
            refine g_ild3 eX12_anew_88 ?_
            refine g_callVl (ci := 11) (w_freshOf _ j (by omega) (h6 j hj) h5 o seed (by omega)) rfl (Nat.le_of_ble_eq_true rfl) (Nat.le_of_ble_eq_true rfl) rfl cv_X12_418 eX12_anew_89 ⟨Nat.le_of_ble_eq_true rfl, Nat.le_of_ble_eq_true rfl⟩ rfl rfl (Nat.le_of_ble_eq_true rfl) (fun c s1 hc => ?_)
            obtain ⟨rfl, hc⟩ := hc
            refine g_ald0 eX12_anew_92 ?_
            refine g_ild2 eX12_anew_93 ?_
            refine g_callVl (ci := 11) (w_freshBound _ j (by omega) (h6 j hj) h5) rfl (Nat.le_of_ble_eq_true rfl) (Nat.le_of_ble_eq_true rfl) rfl cv_X12_422 eX12_anew_94 ⟨Nat.le_of_ble_eq_true rfl, Nat.le_of_ble_eq_true rfl⟩ rfl rfl (Nat.le_of_ble_eq_true rfl) (fun b s1 hb => ?_)
            obtain ⟨rfl, hb⟩ := hb
            refine g_bipush (v := 6) (by decide) eX12_anew_97 ?_
            refine g_callVi (ci := 11) (w_seals _ n h3 (by omega) (nI j) 6 c b) rfl (Nat.le_of_ble_eq_true rfl) (Nat.le_of_ble_eq_true rfl) rfl cv_X12_425 eX12_anew_99 ⟨Nat.le_of_ble_eq_true rfl, Nat.le_of_ble_eq_true rfl⟩ rfl rfl (Nat.le_of_ble_eq_true rfl) (fun r u h => ?_)
            obtain ⟨rfl, b9, hb9, rfl⟩ := h
            refine g_iret rfl eX12_anew_102 ⟨_, rfl, ?_⟩
            try dsimp only
            rw [if_pos hcond, mKa, emB, if_neg hd, ekj, emC]
            rw [ho] at hc
            exact ⟨rfl, c, b9, hc, by rw [hb9, hb]; show min 1000000 (fBm s1 j) = fBm s1 j; omega, _, _, by rw [mkS_same]⟩
          · rw [b2_ne0] at hd
            refine g_bipush (v := (-2)) (by decide) eX12_anew_65 ?_
            refine g_iret rfl eX12_anew_67 ⟨_, rfl, ?_⟩
            try dsimp only
            rw [if_pos hcond, mKa, emB, if_pos hd]
            exact ⟨rfl, rfl⟩
        · exact bad (fun h => by
            have q8 := h.2.2.2
            rw [mKa] at q8
            have q7 := q8.2
            rw [Int.toNat_natCast] at q7
            exact hal2 q7)
theorem w_noise (st s1 : St) (hT : sI st 31 18 0 = s1) {nk n : Nat} (hx : mOK s1 nk n) (hod : oddM s1 nk) (a : Int32) : Mi l D cy 1 YX12_noise [.ref 31, .int a] st (fun r u => u = s1 ∧ r.toInt = if isS n a then noiseF (mC s1 a) (mP s1 (mK s1 a)) else -1000000) := by
  obtain ⟨h1, h2, h3, h4, h5, h6, h7, h8, h9⟩ := hx
  have etn : (nI n).toInt = n := nI_toInt (by omega)
  have hcn : (s1.1 31 58).toInt = n := by rw [h3, etn]
  refine M.ofG [some (.ref 31), some (.int a)] (by decide) (Nat.le_of_ble_eq_true rfl) rfl ?_
  intro xp xe xs xm xa xb xme xc xad xA
  refine g_ald0 eX12_noise_0 ?_
  refine g_iconst (v := 0) (by decide) eX12_noise_1 ?_
  refine g_putI (ci := 11) (j := 18) rfl rfl (Nat.le_of_ble_eq_true rfl) (Nat.le_of_ble_eq_true rfl) (Nat.le_of_ble_eq_true rfl) rfl fl_X12_177 eX12_noise_2 ?_
  rw [hT]
  refine g_ald0 eX12_noise_5 ?_
  refine g_ild1 eX12_noise_6 ?_
  refine g_callVi (ci := 11) (w_isSealed _ a) rfl (Nat.le_of_ble_eq_true rfl) (Nat.le_of_ble_eq_true rfl) rfl cv_X12_436 eX12_noise_7 ⟨Nat.le_of_ble_eq_true rfl, Nat.le_of_ble_eq_true rfl⟩ rfl rfl (Nat.le_of_ble_eq_true rfl) (fun r s1 h => ?_)
  obtain ⟨rfl, rfl⟩ := h
  refine g_if_eq eX12_noise_10 (fun ha => ?_) (fun ha => ?_)
  · rw [b2_eq0, hcn] at ha
    refine g_ldcw kc_X12_454 eX12_noise_38 ?_
    exact g_iret rfl eX12_noise_41 ⟨_, rfl, ⟨rfl, by rw [if_neg ha]; rfl⟩⟩
  · rw [b2_ne0, hcn] at ha
    rw [if_pos ha]
    obtain ⟨a9, ha9, rfl⟩ := as_nI ha
    have hca : (nI a9).toNatClampNeg = a9 := nI_clamp (by omega)
    have eta : (nI a9).toInt.toNat = a9 := hca
    obtain ⟨i, hi, hki⟩ := h7 a9 ha9
    have eki : (nI i).toInt = i := nI_toInt (by omega)
    have hci : (nI i).toNatClampNeg = i := nI_clamp (by omega)
    have mKa : mK s1 (nI a9) = i := by show (s1.1 67 (nI a9).toInt.toNat).toInt.toNat = i; rw [eta, hki]; omega
    have emC : mC s1 (nI a9) = (s1.2 68 a9).toInt := by show (s1.2 68 (nI a9).toInt.toNat).toInt = _; rw [eta]
    have ho := h6 i hi
    have hnr := noise_rng (s1.2 68 a9).toInt (p := (s1.1 63 i).toInt) ho.1
    have hp2 := ho.2.1
    refine g_ald0 eX12_noise_13 ?_
    refine g_getR (ci := 11) (j := 60) rfl (Nat.le_of_ble_eq_true rfl) (Nat.le_of_ble_eq_true rfl) (Nat.le_of_ble_eq_true rfl) rfl rfl fl_X12_125 eX12_noise_14 ?_
    refine g_ild1 eX12_noise_17 ?_
    refine g_lald rfl (Nat.le_of_ble_eq_true rfl) (rowIx ha9 h4) eX12_noise_18 ?_
    refine g_ald0 eX12_noise_19 ?_
    refine g_getR (ci := 11) (j := 54) rfl (Nat.le_of_ble_eq_true rfl) (Nat.le_of_ble_eq_true rfl) (Nat.le_of_ble_eq_true rfl) rfl rfl fl_X12_109 eX12_noise_20 ?_
    refine g_ald0 eX12_noise_23 ?_
    refine g_getR (ci := 11) (j := 59) rfl (Nat.le_of_ble_eq_true rfl) (Nat.le_of_ble_eq_true rfl) (Nat.le_of_ble_eq_true rfl) rfl rfl fl_X12_122 eX12_noise_24 ?_
    refine g_ild1 eX12_noise_27 ?_
    refine g_iald rfl (Nat.le_of_ble_eq_true rfl) (rowIx ha9 h4) eX12_noise_28 ?_
    rw [hca, hki]
    refine g_iald rfl (Nat.le_of_ble_eq_true rfl) (vp_in_nI (n := i) (N := 4) (by omega) (by decide)) eX12_noise_29 ?_
    refine g_i2l eX12_noise_30 ?_
    rw [hci]
    refine g_callSl (w_noiseOf _ _ _ (h9 a9 ha9).1 (by rw [tl]; exact ⟨ho.1, ho.2.1⟩) (by rw [tl]; exact hod i hi)) cs_X12_443 eX12_noise_31 ⟨Nat.le_of_ble_eq_true rfl, Nat.le_of_ble_eq_true rfl⟩ rfl rfl (Nat.le_of_ble_eq_true rfl) (fun z s1 hz => ?_)
    obtain ⟨rfl, hz⟩ := hz
    rw [tl] at hz
    refine g_l2i eX12_noise_34 ?_
    refine g_goto eX12_noise_35 ?_
    exact g_iret rfl eX12_noise_41 ⟨_, rfl, ⟨rfl, by rw [l2i (by rw [hz]; omega) (by rw [hz]; omega), hz, mKa, emC]⟩⟩
/-- what the reference opens -/
def opM (st : St) (n : Nat) (a : Int32) : Int := if isS n a then (if alvM st (mK st a) then (if mP st (mK st a) ≤ 2 * mB st a then -2 else noiseF (mC st a) (mP st (mK st a)) % (st.1 31 17).toInt) else -3) else -1
theorem w_openOf (st : St) {nk n : Nat} (hx : mOK st nk n) (hod : oddM st nk) (a : Nat) (ha9 : a < n) : Mi l D cy 2 YX12_openOf [.ref 31, .int (nI a)] st (fun r u => u = st ∧ r.toInt = opM st n (nI a)) := by
  obtain ⟨h1, h2, h3, h4, h5, h6, h7, h8, h9⟩ := hx
  have hck : (st.1 31 53).toInt = nk := by rw [h1, nI_toInt (by omega)]
  have hca : (nI a).toNatClampNeg = a := nI_clamp (by omega)
  have eta : (nI a).toInt.toNat = a := hca
  have ett : (nI a).toInt = a := nI_toInt (by omega)
  obtain ⟨i, hi, hki⟩ := h7 a ha9
  have eki : (nI i).toInt = i := nI_toInt (by omega)
  have hci : (nI i).toNatClampNeg = i := nI_clamp (by omega)
  have mKa : mK st (nI a) = i := by show (st.1 67 (nI a).toInt.toNat).toInt.toNat = i; rw [eta, hki]; omega
  have emB : mB st (nI a) = (st.2 69 a).toInt := by show (st.2 69 (nI a).toInt.toNat).toInt = _; rw [eta]
  have emC : mC st (nI a) = (st.2 68 a).toInt := by show (st.2 68 (nI a).toInt.toNat).toInt = _; rw [eta]
  have hS : isS n (nI a) := ⟨by omega, by omega⟩
  unfold opM
  rw [if_pos hS, mKa, emB, emC]
  refine M.ofG [some (.ref 31), some (.int (nI a))] (by decide) (Nat.le_of_ble_eq_true rfl) rfl ?_
  intro xp xe xs xm xa xb xme xc xad xA
  refine g_ald0 eX12_openOf_0 ?_
  refine g_getR (ci := 11) (j := 57) rfl (Nat.le_of_ble_eq_true rfl) (Nat.le_of_ble_eq_true rfl) (Nat.le_of_ble_eq_true rfl) rfl rfl fl_X12_118 eX12_openOf_1 ?_
  refine g_ald0 eX12_openOf_4 ?_
  refine g_getR (ci := 11) (j := 59) rfl (Nat.le_of_ble_eq_true rfl) (Nat.le_of_ble_eq_true rfl) (Nat.le_of_ble_eq_true rfl) rfl rfl fl_X12_122 eX12_openOf_5 ?_
  refine g_ild1 eX12_openOf_8 ?_
  refine g_iald rfl (Nat.le_of_ble_eq_true rfl) (rowIx ha9 h4) eX12_openOf_9 ?_
  rw [hca, hki]
  refine g_zald rfl (Nat.le_of_ble_eq_true rfl) (vp_in_nI (n := i) (N := 4) (by omega) (by decide)) eX12_openOf_10 ?_
  rw [hci]
  refine g_if_eq eX12_openOf_11 (fun hal => ?_) (fun hal => ?_)
  · rw [if_pos (show alvM st (i : Int) from ⟨by omega, by rw [Int.toNat_natCast]; exact hal⟩)]
    refine g_ald0 eX12_openOf_17 ?_
    refine g_ald0 eX12_openOf_18 ?_
    refine g_getR (ci := 11) (j := 59) rfl (Nat.le_of_ble_eq_true rfl) (Nat.le_of_ble_eq_true rfl) (Nat.le_of_ble_eq_true rfl) rfl rfl fl_X12_122 eX12_openOf_19 ?_
    refine g_ild1 eX12_openOf_22 ?_
    refine g_iald rfl (Nat.le_of_ble_eq_true rfl) (rowIx ha9 h4) eX12_openOf_23 ?_
    refine g_ald0 eX12_openOf_24 ?_
    refine g_getR (ci := 11) (j := 61) rfl (Nat.le_of_ble_eq_true rfl) (Nat.le_of_ble_eq_true rfl) (Nat.le_of_ble_eq_true rfl) rfl rfl fl_X12_128 eX12_openOf_25 ?_
    refine g_ild1 eX12_openOf_28 ?_
    refine g_lald rfl (Nat.le_of_ble_eq_true rfl) (rowIx ha9 h4) eX12_openOf_29 ?_
    rw [hca, hki]
    refine g_callVi (ci := 11) (w_isDrowned _ i (by omega) _ (h8 a ha9)) rfl (Nat.le_of_ble_eq_true rfl) (Nat.le_of_ble_eq_true rfl) rfl cv_X12_446 eX12_openOf_30 ⟨Nat.le_of_ble_eq_true rfl, Nat.le_of_ble_eq_true rfl⟩ rfl rfl (Nat.le_of_ble_eq_true rfl) (fun r st h => ?_)
    obtain ⟨rfl, rfl⟩ := h
    refine g_if_eq eX12_openOf_33 (fun hd => ?_) (fun hd => ?_)
    · rw [b2_eq0] at hd
      rw [if_neg hd]
      refine g_ald0 eX12_openOf_41 ?_
      refine g_ald0 eX12_openOf_42 ?_
      refine g_getR (ci := 11) (j := 59) rfl (Nat.le_of_ble_eq_true rfl) (Nat.le_of_ble_eq_true rfl) (Nat.le_of_ble_eq_true rfl) rfl rfl fl_X12_122 eX12_openOf_43 ?_
      refine g_ild1 eX12_openOf_46 ?_
      refine g_iald rfl (Nat.le_of_ble_eq_true rfl) (rowIx ha9 h4) eX12_openOf_47 ?_
      refine g_ald0 eX12_openOf_48 ?_
      refine g_getR (ci := 11) (j := 60) rfl (Nat.le_of_ble_eq_true rfl) (Nat.le_of_ble_eq_true rfl) (Nat.le_of_ble_eq_true rfl) rfl rfl fl_X12_125 eX12_openOf_49 ?_
      refine g_ild1 eX12_openOf_52 ?_
      refine g_lald rfl (Nat.le_of_ble_eq_true rfl) (rowIx ha9 h4) eX12_openOf_53 ?_
      rw [hca, hki]
      refine g_callVi (ci := 11) (w_opensTo _ i (by omega) (h6 i hi) (hod i hi) h5 _ (h9 a ha9).1) rfl (Nat.le_of_ble_eq_true rfl) (Nat.le_of_ble_eq_true rfl) rfl cv_X12_450 eX12_openOf_54 ⟨Nat.le_of_ble_eq_true rfl, Nat.le_of_ble_eq_true rfl⟩ rfl rfl (Nat.le_of_ble_eq_true rfl) (fun o st ho => ?_)
      obtain ⟨rfl, ho⟩ := ho
      exact g_iret rfl eX12_openOf_57 ⟨_, rfl, ⟨rfl, ho⟩⟩
    · rw [b2_ne0] at hd
      rw [if_pos hd]
      refine g_bipush (v := (-2)) (by decide) eX12_openOf_36 ?_
      refine g_goto eX12_openOf_38 ?_
      exact g_iret rfl eX12_openOf_57 ⟨_, rfl, ⟨rfl, rfl⟩⟩
  · rw [if_neg (fun h => hal (by have q := h.2; rw [Int.toNat_natCast] at q; exact q))]
    refine g_bipush (v := (-3)) (by decide) eX12_openOf_14 ?_
    exact g_iret rfl eX12_openOf_16 ⟨_, rfl, ⟨rfl, rfl⟩⟩
theorem w_open (st s1 : St) (hT : sI st 31 18 0 = s1) {nk n : Nat} (hx : mOK s1 nk n) (hod : oddM s1 nk) (a : Int32) : Mi l D cy 3 YX12_open [.ref 31, .int a] st (fun r u => u = s1 ∧ r.toInt = opM s1 n a) := by
  have hx0 := hx
  obtain ⟨h1, h2, h3, h4, -⟩ := hx
  have hcn : (s1.1 31 58).toInt = n := by rw [h3, nI_toInt (by omega)]
  refine M.ofG [some (.ref 31), some (.int a)] (by decide) (Nat.le_of_ble_eq_true rfl) rfl ?_
  intro xp xe xs xm xa xb xme xc xad xA
  refine g_ald0 eX12_open_0 ?_
  refine g_iconst (v := 0) (by decide) eX12_open_1 ?_
  refine g_putI (ci := 11) (j := 18) rfl rfl (Nat.le_of_ble_eq_true rfl) (Nat.le_of_ble_eq_true rfl) (Nat.le_of_ble_eq_true rfl) rfl fl_X12_177 eX12_open_2 ?_
  rw [hT]
  refine g_ald0 eX12_open_5 ?_
  refine g_ild1 eX12_open_6 ?_
  refine g_callVi (ci := 11) (w_isSealed _ a) rfl (Nat.le_of_ble_eq_true rfl) (Nat.le_of_ble_eq_true rfl) rfl cv_X12_436 eX12_open_7 ⟨Nat.le_of_ble_eq_true rfl, Nat.le_of_ble_eq_true rfl⟩ rfl rfl (Nat.le_of_ble_eq_true rfl) (fun r s1 h => ?_)
  obtain ⟨rfl, rfl⟩ := h
  refine g_if_eq eX12_open_10 (fun ha => ?_) (fun ha => ?_)
  · rw [b2_eq0, hcn] at ha
    refine g_iconst (v := (-1)) (by decide) eX12_open_21 ?_
    refine g_iret rfl eX12_open_22 ⟨_, rfl, ?_⟩
    try dsimp only
    unfold opM
    rw [if_neg ha]
    exact ⟨rfl, rfl⟩
  · rw [b2_ne0, hcn] at ha
    obtain ⟨a9, ha9, rfl⟩ := as_nI ha
    refine g_ald0 eX12_open_13 ?_
    refine g_ild1 eX12_open_14 ?_
    refine g_callVi (ci := 11) (w_openOf _ hx0 hod a9 ha9) rfl (Nat.le_of_ble_eq_true rfl) (Nat.le_of_ble_eq_true rfl) rfl cv_X12_455 eX12_open_15 ⟨Nat.le_of_ble_eq_true rfl, Nat.le_of_ble_eq_true rfl⟩ rfl rfl (Nat.le_of_ble_eq_true rfl) (fun o s1 ho => ?_)
    obtain ⟨rfl, ho⟩ := ho
    refine g_goto eX12_open_18 ?_
    exact g_iret rfl eX12_open_22 ⟨_, rfl, ⟨rfl, ho⟩⟩
theorem w_budget (st s1 : St) (hT : sI st 31 18 0 = s1) (v : Int32) : Mi l D cy 1 YX12_budget [.ref 31, .int v] st (fun r u => if 0 ≤ v.toInt ∧ v.toInt ≤ 10000 then r = 1 ∧ u = sI s1 31 65 v else r = 0 ∧ u = s1) := by
  have e0 : (0 : Int32).toInt = 0 := rfl
  have e1 : (10000 : Int32).toInt = 10000 := rfl
  refine M.ofG [some (.ref 31), some (.int v)] (by decide) (Nat.le_of_ble_eq_true rfl) rfl ?_
  intro xp xe xs xm xa xb xme xc xad xA
  refine g_ald0 eX12_budget_0 ?_
  refine g_iconst (v := 0) (by decide) eX12_budget_1 ?_
  refine g_putI (ci := 11) (j := 18) rfl rfl (Nat.le_of_ble_eq_true rfl) (Nat.le_of_ble_eq_true rfl) (Nat.le_of_ble_eq_true rfl) rfl fl_X12_177 eX12_budget_2 ?_
  rw [hT]
  refine g_ild1 eX12_budget_5 ?_
  refine g_iconst (v := 0) (by decide) eX12_budget_6 ?_
  refine g_sipush (v := 10000) (by decide) eX12_budget_7 ?_
  refine g_callSi (w_in _ v 0 10000) cs_X12_378 eX12_budget_10 ⟨Nat.le_of_ble_eq_true rfl, Nat.le_of_ble_eq_true rfl⟩ rfl rfl (Nat.le_of_ble_eq_true rfl) (fun r s1 h => ?_)
  obtain ⟨rfl, rfl⟩ := h
  rw [e0, e1]
  refine g_if_ne eX12_budget_13 (fun hb => ?_) (fun hb => ?_)
  · rw [b2_ne0] at hb
    refine g_ald0 eX12_budget_18 ?_
    refine g_ild1 eX12_budget_19 ?_
    refine g_putI (ci := 11) (j := 65) rfl rfl (Nat.le_of_ble_eq_true rfl) (Nat.le_of_ble_eq_true rfl) (Nat.le_of_ble_eq_true rfl) rfl fl_X12_458 eX12_budget_20 ?_
    refine g_iconst (v := 1) (by decide) eX12_budget_23 ?_
    refine g_zret (ty := .boolean) rfl (by first | rfl | assumption) eX12_budget_24 ⟨_, rfl, ?_⟩
    try dsimp only
    rw [if_pos hb]
    exact ⟨rfl, rfl⟩
  · rw [b2_eq0] at hb
    refine g_iconst (v := 0) (by decide) eX12_budget_16 ?_
    refine g_zret (ty := .boolean) rfl (by first | rfl | assumption) eX12_budget_17 ⟨_, rfl, ?_⟩
    try dsimp only
    rw [if_neg hb]
    exact ⟨rfl, rfl⟩
theorem w_lot (st s1 : St) (hT : sI st 31 18 0 = s1) (a b n : Int32) : Mi l D cy 2 YX12_lot [.ref 31, .int a, .int b, .int n] st (fun r u => u = s1 ∧ r.toInt = if 1 ≤ n.toInt ∧ n.toInt ≤ 1000000 then lotF a b n.toInt else -1) := by
  have e1 : (1000000 : Int32).toInt = 1000000 := rfl
  refine M.ofG [some (.ref 31), some (.int a), some (.int b), some (.int n)] (by decide) (Nat.le_of_ble_eq_true rfl) rfl ?_
  intro xp xe xs xm xa xb xme xc xad xA
  refine g_ald0 eX12_lot_0 ?_
  refine g_iconst (v := 0) (by decide) eX12_lot_1 ?_
  refine g_putI (ci := 11) (j := 18) rfl rfl (Nat.le_of_ble_eq_true rfl) (Nat.le_of_ble_eq_true rfl) (Nat.le_of_ble_eq_true rfl) rfl fl_X12_177 eX12_lot_2 ?_
  rw [hT]
  refine g_ild3 eX12_lot_5 ?_
  refine g_iconst (v := 1) (by decide) eX12_lot_6 ?_
  refine g_ldcw kc_X12_377 eX12_lot_7 ?_
  refine g_callSi (w_in _ n 1 1000000) cs_X12_378 eX12_lot_10 ⟨Nat.le_of_ble_eq_true rfl, Nat.le_of_ble_eq_true rfl⟩ rfl rfl (Nat.le_of_ble_eq_true rfl) (fun r s1 h => ?_)
  obtain ⟨rfl, rfl⟩ := h
  rw [o32, e1]
  refine g_if_eq eX12_lot_13 (fun hb => ?_) (fun hb => ?_)
  · rw [b2_eq0] at hb
    refine g_iconst (v := (-1)) (by decide) eX12_lot_25 ?_
    exact g_iret rfl eX12_lot_26 ⟨_, rfl, ⟨rfl, by rw [if_neg hb]; rfl⟩⟩
  · rw [b2_ne0] at hb
    refine g_ild1 eX12_lot_16 ?_
    refine g_ild2 eX12_lot_17 ?_
    refine g_ild3 eX12_lot_18 ?_
    refine g_callSi (w_lotOf _ a b n hb.1) cs_X12_382 eX12_lot_19 ⟨Nat.le_of_ble_eq_true rfl, Nat.le_of_ble_eq_true rfl⟩ rfl rfl (Nat.le_of_ble_eq_true rfl) (fun r s1 h => ?_)
    obtain ⟨rfl, h⟩ := h
    refine g_goto eX12_lot_22 ?_
    exact g_iret rfl eX12_lot_26 ⟨_, rfl, ⟨rfl, by rw [if_pos hb]; exact h⟩⟩
theorem w_dead (st s1 : St) (hT : sI st 31 18 0 = s1) (x : Int32) (hk : (s1.1 31 53).toInt ≤ 4) : Mi l D cy 2 YX12_dead [.ref 31, .int x] st (fun r u => if alvM s1 x.toInt then r = 1 ∧ u = sI s1 66 x.toInt.toNat 1 else r = 0 ∧ u = s1) := by
  refine M.ofG [some (.ref 31), some (.int x)] (by decide) (Nat.le_of_ble_eq_true rfl) rfl ?_
  intro xp xe xs xm xa xb xme xc xad xA
  refine g_ald0 eX12_dead_0 ?_
  refine g_iconst (v := 0) (by decide) eX12_dead_1 ?_
  refine g_putI (ci := 11) (j := 18) rfl rfl (Nat.le_of_ble_eq_true rfl) (Nat.le_of_ble_eq_true rfl) (Nat.le_of_ble_eq_true rfl) rfl fl_X12_177 eX12_dead_2 ?_
  rw [hT]
  refine g_ald0 eX12_dead_5 ?_
  refine g_ild1 eX12_dead_6 ?_
  refine g_callVi (ci := 11) (w_isAlive _ x hk) rfl (Nat.le_of_ble_eq_true rfl) (Nat.le_of_ble_eq_true rfl) rfl cv_X12_392 eX12_dead_7 ⟨Nat.le_of_ble_eq_true rfl, Nat.le_of_ble_eq_true rfl⟩ rfl rfl (Nat.le_of_ble_eq_true rfl) (fun r s1 h => ?_)
  obtain ⟨rfl, rfl⟩ := h
  refine g_if_ne eX12_dead_10 (fun hb => ?_) (fun hb => ?_)
  · rw [b2_ne0] at hb
    have hb1 := hb.1
    refine g_ald0 eX12_dead_15 ?_
    refine g_getR (ci := 11) (j := 57) rfl (Nat.le_of_ble_eq_true rfl) (Nat.le_of_ble_eq_true rfl) (Nat.le_of_ble_eq_true rfl) rfl rfl fl_X12_118 eX12_dead_16 ?_
    refine g_ild1 eX12_dead_19 ?_
    refine g_iconst (v := 1) (by decide) eX12_dead_20 ?_
    refine g_zast rfl (Nat.le_of_ble_eq_true rfl) rfl (vin (n := 4) (by omega) (by omega)) eX12_dead_21 ?_
    refine g_iconst (v := 1) (by decide) eX12_dead_22 ?_
    refine g_zret (ty := .boolean) rfl (by first | rfl | assumption) eX12_dead_23 ⟨_, rfl, ?_⟩
    try dsimp only
    rw [if_pos hb]
    exact ⟨rfl, rfl⟩
  · rw [b2_eq0] at hb
    refine g_iconst (v := 0) (by decide) eX12_dead_13 ?_
    refine g_zret (ty := .boolean) rfl (by first | rfl | assumption) eX12_dead_14 ⟨_, rfl, ?_⟩
    try dsimp only
    rw [if_neg hb]
    exact ⟨rfl, rfl⟩
theorem w_given (st s1 : St) (hT : sI st 31 18 0 = s1) {nk n : Nat} (hx : mOK s1 nk n) (a b : Int32) : Mi l D cy 1 YX12_given [.ref 31, .int a, .int b] st (fun r u => if (0 ≤ a.toInt ∧ a.toInt < 6) ∧ isS n b then r = 1 ∧ u = sI s1 72 (qI a) b else r = 0 ∧ u = s1) := by
  obtain ⟨h1, h2, h3, h4, -⟩ := hx
  have hcn : (s1.1 31 58).toInt = n := by rw [h3, nI_toInt (by omega)]
  have e0 : (0 : Int32).toInt = 0 := rfl
  have e5 : (5 : Int32).toInt = 5 := rfl
  refine M.ofG [some (.ref 31), some (.int a), some (.int b)] (by decide) (Nat.le_of_ble_eq_true rfl) rfl ?_
  intro xp xe xs xm xa xb xme xc xad xA
  refine g_ald0 eX12_given_0 ?_
  refine g_iconst (v := 0) (by decide) eX12_given_1 ?_
  refine g_putI (ci := 11) (j := 18) rfl rfl (Nat.le_of_ble_eq_true rfl) (Nat.le_of_ble_eq_true rfl) (Nat.le_of_ble_eq_true rfl) rfl fl_X12_177 eX12_given_2 ?_
  rw [hT]
  refine g_ild1 eX12_given_5 ?_
  refine g_iconst (v := 0) (by decide) eX12_given_6 ?_
  refine g_iconst (v := 5) (by decide) eX12_given_7 ?_
  refine g_callSi (w_in _ a 0 5) cs_X12_378 eX12_given_8 ⟨Nat.le_of_ble_eq_true rfl, Nat.le_of_ble_eq_true rfl⟩ rfl rfl (Nat.le_of_ble_eq_true rfl) (fun r s1 h => ?_)
  obtain ⟨rfl, rfl⟩ := h
  rw [e0, e5]
  refine g_if_eq eX12_given_11 (fun hb => ?_) (fun hb => ?_)
  · rw [b2_eq0] at hb
    refine g_iconst (v := 0) (by decide) eX12_given_22 ?_
    refine g_zret (ty := .boolean) rfl (by first | rfl | assumption) eX12_given_23 ⟨_, rfl, ?_⟩
    try dsimp only
    rw [if_neg (fun h => by omega)]
    exact ⟨rfl, rfl⟩
  · rw [b2_ne0] at hb
    refine g_ald0 eX12_given_14 ?_
    refine g_ild2 eX12_given_15 ?_
    refine g_callVi (ci := 11) (w_isSealed _ b) rfl (Nat.le_of_ble_eq_true rfl) (Nat.le_of_ble_eq_true rfl) rfl cv_X12_436 eX12_given_16 ⟨Nat.le_of_ble_eq_true rfl, Nat.le_of_ble_eq_true rfl⟩ rfl rfl (Nat.le_of_ble_eq_true rfl) (fun r s1 h => ?_)
    obtain ⟨rfl, rfl⟩ := h
    refine g_if_ne eX12_given_19 (fun hb3 => ?_) (fun hb3 => ?_)
    · rw [b2_ne0, hcn] at hb3
      refine g_ald0 eX12_given_24 ?_
      refine g_getR (ci := 11) (j := 67) rfl (Nat.le_of_ble_eq_true rfl) (Nat.le_of_ble_eq_true rfl) (Nat.le_of_ble_eq_true rfl) rfl rfl fl_X12_137 eX12_given_25 ?_
      refine g_ild1 eX12_given_28 ?_
      refine g_ild2 eX12_given_29 ?_
      refine g_iast rfl (Nat.le_of_ble_eq_true rfl) (vin (n := 6) (by omega) (by omega)) eX12_given_30 ?_
      refine g_iconst (v := 1) (by decide) eX12_given_31 ?_
      refine g_zret (ty := .boolean) rfl (by first | rfl | assumption) eX12_given_32 ⟨_, rfl, ?_⟩
      try dsimp only
      rw [if_pos ⟨by omega, hb3⟩]
      exact ⟨rfl, rfl⟩
    · rw [b2_eq0, hcn] at hb3
      refine g_iconst (v := 0) (by decide) eX12_given_22 ?_
      refine g_zret (ty := .boolean) rfl (by first | rfl | assumption) eX12_given_23 ⟨_, rfl, ?_⟩
      try dsimp only
      rw [if_neg (fun h => hb3 h.2)]
      exact ⟨rfl, rfl⟩
theorem w_thrown (st : St) : Mi l D cy 0 YX12_thrown [.ref 31] st (fun r u => u = st ∧ r = st.1 31 18) := by
  refine M.ofG [some (.ref 31)] (by decide) (Nat.le_of_ble_eq_true rfl) rfl ?_
  intro xp xe xs xm xa xb xme xc xad xA
  refine g_ald0 eX12_thrown_0 ?_
  refine g_getI (ci := 11) (j := 18) rfl (Nat.le_of_ble_eq_true rfl) (Nat.le_of_ble_eq_true rfl) (Nat.le_of_ble_eq_true rfl) rfl fl_X12_177 eX12_thrown_1 ?_
  refine g_iret rfl eX12_thrown_4 ⟨_, rfl, ?_⟩
  try dsimp only
  exact ⟨rfl, rfl⟩
theorem w_place (st s1 : St) (hT : sI st 31 18 0 = s1) : Mi l D cy 0 YX12_place [.ref 31] st (fun r u => u = s1 ∧ r = s1.1 31 16) := by
  refine M.ofG [some (.ref 31)] (by decide) (Nat.le_of_ble_eq_true rfl) rfl ?_
  intro xp xe xs xm xa xb xme xc xad xA
  refine g_ald0 eX12_place_0 ?_
  refine g_iconst (v := 0) (by decide) eX12_place_1 ?_
  refine g_putI (ci := 11) (j := 18) rfl rfl (Nat.le_of_ble_eq_true rfl) (Nat.le_of_ble_eq_true rfl) (Nat.le_of_ble_eq_true rfl) rfl fl_X12_177 eX12_place_2 ?_
  rw [hT]
  refine g_ald0 eX12_place_5 ?_
  refine g_getI (ci := 11) (j := 16) rfl (Nat.le_of_ble_eq_true rfl) (Nat.le_of_ble_eq_true rfl) (Nat.le_of_ble_eq_true rfl) rfl fl_X12_33 eX12_place_6 ?_
  refine g_iret rfl eX12_place_9 ⟨_, rfl, ?_⟩
  try dsimp only
  exact ⟨rfl, rfl⟩
theorem w_back (st s1 : St) (hT : sI st 31 18 0 = s1) (x : Int32) (n : Nat) (hn : s1.1 31 1 = nI n) (h : n ≤ 2000) : Mi l D cy 0 YX12_back [.ref 31, .int x] st (fun r u => if 0 ≤ x.toInt ∧ x.toInt ≤ n then r = nI (n - x.toInt.toNat) ∧ u = sI s1 31 1 (nI (n - x.toInt.toNat)) else r = -1 ∧ u = s1) := by
  have ht : (nI n).toInt = n := nI_toInt (by omega)
  refine M.ofG [some (.ref 31), some (.int x)] (by decide) (Nat.le_of_ble_eq_true rfl) rfl ?_
  intro xp xe xs xm xa xb xme xc xad xA
  refine g_ald0 eX12_back_0 ?_
  refine g_iconst (v := 0) (by decide) eX12_back_1 ?_
  refine g_putI (ci := 11) (j := 18) rfl rfl (Nat.le_of_ble_eq_true rfl) (Nat.le_of_ble_eq_true rfl) (Nat.le_of_ble_eq_true rfl) rfl fl_X12_177 eX12_back_2 ?_
  rw [hT]
  refine g_ild1 eX12_back_5 ?_
  refine g_if_lt eX12_back_6 (fun hb => ?_) (fun hb => ?_)
  · simp only [fa_lt, Int32.reduceToInt] at hb
    refine g_iconst (v := (-1)) (by decide) eX12_back_17 ?_
    refine g_iret rfl eX12_back_18 ⟨_, rfl, ?_⟩
    try dsimp only
    rw [if_neg (by omega)]
    exact ⟨rfl, rfl⟩
  · simp only [fa_lt, Int32.reduceToInt] at hb
    refine g_ild1 eX12_back_9 ?_
    refine g_ald0 eX12_back_10 ?_
    refine g_getI (ci := 11) (j := 1) rfl (Nat.le_of_ble_eq_true rfl) (Nat.le_of_ble_eq_true rfl) (Nat.le_of_ble_eq_true rfl) rfl fl_X12_180 eX12_back_11 ?_
    rw [hn]
    refine g_icmp_le eX12_back_14 (fun h2 => ?_) (fun h2 => ?_)
    · rw [fa_le, ht] at h2
      have e : nI n - x = nI (n - x.toInt.toNat) := by
        rw [fa_eq, nI_toInt (by omega), fb_subI] <;> rw [ht] <;> omega
      refine g_ald0 eX12_back_19 ?_
      refine g_dup rfl eX12_back_20 ?_
      refine g_getI (ci := 11) (j := 1) rfl (Nat.le_of_ble_eq_true rfl) (Nat.le_of_ble_eq_true rfl) (Nat.le_of_ble_eq_true rfl) rfl fl_X12_180 eX12_back_21 ?_
      refine g_ild1 eX12_back_24 ?_
      refine g_isub eX12_back_25 ?_
      refine g_putI (ci := 11) (j := 1) rfl rfl (Nat.le_of_ble_eq_true rfl) (Nat.le_of_ble_eq_true rfl) (Nat.le_of_ble_eq_true rfl) rfl fl_X12_180 eX12_back_26 ?_
      refine g_ald0 eX12_back_29 ?_
      refine g_getI (ci := 11) (j := 1) rfl (Nat.le_of_ble_eq_true rfl) (Nat.le_of_ble_eq_true rfl) (Nat.le_of_ble_eq_true rfl) rfl fl_X12_180 eX12_back_30 ?_
      refine g_iret rfl eX12_back_33 ⟨_, rfl, ?_⟩
      try dsimp only
      rw [if_pos (by omega), sI_1, if_pos ⟨rfl, rfl⟩, hn, e]
      exact ⟨rfl, rfl⟩
    · rw [fa_le, ht] at h2
      refine g_iconst (v := (-1)) (by decide) eX12_back_17 ?_
      refine g_iret rfl eX12_back_18 ⟨_, rfl, ?_⟩
      try dsimp only
      rw [if_neg (by omega)]
      exact ⟨rfl, rfl⟩
end MODD
