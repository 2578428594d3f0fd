/-! SealedSumsModel: masks, works, anew, openings -/
section MODC
variable {l : Launch} {D : va_G} {cy : Nat → ClassId}
theorem sL_same (st : St) (k j : Nat) : sL st k j (st.2 k j) = st := by
  refine St_ext (fun _ _ => rfl) (fun a b => ?_)
  rw [sL_2]
  split
  · rename_i h; rw [h.1, h.2]
  · rfl
theorem mkS_same (st : St) : mkS st (st.2 31 63) (st.2 31 64) = st := by
  unfold mkS
  rw [sL_same, sL_same]
theorem mkS_1 (st : St) (c d : Int64) : (mkS st c d).1 = st.1 := rfl
theorem mkS_C (st : St) (c d : Int64) : (mkS st c d).2 31 63 = c := by
  unfold mkS
  rw [sL_2, if_neg (by decide), sL_2, if_pos ⟨rfl, rfl⟩]
theorem mkS_B (st : St) (c d : Int64) : (mkS st c d).2 31 64 = d := by
  unfold mkS
  rw [sL_2, if_pos ⟨rfl, rfl⟩]
theorem mkS_row (st : St) (c d : Int64) {k : Nat} (h : k ≠ 31) : (mkS st c d).2 k = st.2 k := by
  unfold mkS
  rw [sL_row h, sL_row h]
/-- a row more at the reference -/
def adM (st : St) (n k : Nat) (d : Int32) (C B : Int) (r : Int32) (u : St) : Prop := r = nI n ∧ ∃ c b : Int64, c.toInt = C ∧ b.toInt = B ∧ ∃ x y : Int64, u = selM (mkS st x y) n (nI k) c b d
noncomputable abbrev fCm (st : St) (i : Nat) (m : Int) (seed : Int32) : Int := freshF (st.1 63 i).toInt (st.1 64 i).toInt (st.1 65 i).toInt (st.1 31 17).toInt m seed
abbrev fBm (st : St) (i : Nat) : Int := (st.1 31 17).toInt * (st.1 65 i).toInt + (st.1 31 17).toInt - 1
abbrev mK (st : St) (a : Int32) : Nat := (st.1 67 a.toInt.toNat).toInt.toNat
abbrev mC (st : St) (a : Int32) : Int := (st.2 68 a.toInt.toNat).toInt
abbrev mB (st : St) (a : Int32) : Int := (st.2 69 a.toInt.toNat).toInt
abbrev mP (st : St) (i : Nat) : Int := (st.1 63 i).toInt
theorem fB_rng {st : St} {i : Nat} (ho : mkOK st i) (ht : tOK (st.1 31 17)) : 0 ≤ fBm st i ∧ fBm st i ≤ 1000000 := by
  have := tb_rng ht ho.2.2.2.2
  show 0 ≤ (st.1 31 17).toInt * (st.1 65 i).toInt + (st.1 31 17).toInt - 1 ∧ (st.1 31 17).toInt * (st.1 65 i).toInt + (st.1 31 17).toInt - 1 ≤ 1000000
  omega
set_option maxHeartbeats 4000000 in
theorem w_mask (st s1 : St) (hT : sI st 31 18 0 = s1) {nk n : Nat} (hx : mOK s1 nk n) (k m0 seed : Int32) : Mi l D cy 4 YX12_mask [.ref 31, .int k, .int m0, .int seed] st (fun r u => if (alvM s1 k.toInt ∧ 0 ≤ m0.toInt ∧ m0.toInt < (s1.1 31 17).toInt) ∧ n ≠ 60 then adM s1 n k.toInt.toNat 0 (fCm s1 k.toInt.toNat m0.toInt seed) (fBm s1 k.toInt.toNat) r u else r = -1 ∧ u = s1) := by
  obtain ⟨h1, h2, h3, h4, h5, h6, h7, h8, h9⟩ := hx
  have hk4 : (s1.1 31 53).toInt ≤ 4 := by rw [h1, nI_toInt (by omega)]; omega
  have etn : (nI n).toInt = n := nI_toInt (by omega)
  refine M.ofG [some (.ref 31), some (.int k), some (.int m0), some (.int seed)] (by decide) (Nat.le_of_ble_eq_true rfl) rfl ?_
  intro xp xe xs xm xa xb xme xc xad xA
  refine g_ald0 eX12_mask_0 ?_
  refine g_iconst (v := 0) (by decide) eX12_mask_1 ?_
  refine g_putI (ci := 11) (j := 18) rfl rfl (Nat.le_of_ble_eq_true rfl) (Nat.le_of_ble_eq_true rfl) (Nat.le_of_ble_eq_true rfl) rfl fl_X12_177 eX12_mask_2 ?_
  rw [hT]
  refine g_ald0 eX12_mask_5 ?_
  refine g_getI (ci := 11) (j := 58) rfl (Nat.le_of_ble_eq_true rfl) (Nat.le_of_ble_eq_true rfl) (Nat.le_of_ble_eq_true rfl) rfl fl_X12_408 eX12_mask_6 ?_
  refine g_bipush (v := 60) (by decide) eX12_mask_9 ?_
  rw [h3]
  refine g_icmp_eq eX12_mask_11 (fun hf => ?_) (fun hf => ?_)
  · simp only [fa_eq, Int32.reduceToInt, etn] at hf
    refine g_iconst (v := (-1)) (by decide) eX12_mask_30 ?_
    refine g_goto eX12_mask_31 ?_
    refine g_iret rfl eX12_mask_52 ⟨_, rfl, ?_⟩
    try dsimp only
    rw [if_neg (fun h => h.2 (by omega))]
    exact ⟨rfl, rfl⟩
  · simp only [fa_eq, Int32.reduceToInt, etn] at hf
    refine g_ald0 eX12_mask_14 ?_
    refine g_ild1 eX12_mask_15 ?_
    refine g_callVi (ci := 11) (w_isAlive _ k hk4) rfl (Nat.le_of_ble_eq_true rfl) (Nat.le_of_ble_eq_true rfl) rfl cv_X12_392 eX12_mask_16 ⟨Nat.le_of_ble_eq_true rfl, Nat.le_of_ble_eq_true rfl⟩ rfl rfl (Nat.le_of_ble_eq_true rfl) (fun r s1 h => ?_)
    obtain ⟨rfl, rfl⟩ := h
    refine g_if_eq eX12_mask_19 (fun hb => ?_) (fun hb => ?_)
    · rw [b2_eq0] at hb
      refine g_iconst (v := (-1)) (by decide) eX12_mask_30 ?_
      refine g_goto eX12_mask_31 ?_
      refine g_iret rfl eX12_mask_52 ⟨_, rfl, ?_⟩
      try dsimp only
      rw [if_neg (fun h => hb h.1.1)]
      exact ⟨rfl, rfl⟩
    · rw [b2_ne0] at hb
      refine g_ald0 eX12_mask_22 ?_
      refine g_ild2 eX12_mask_23 ?_
      refine g_callVi (ci := 11) (w_isNumber _ m0) rfl (Nat.le_of_ble_eq_true rfl) (Nat.le_of_ble_eq_true rfl) rfl cv_X12_415 eX12_mask_24 ⟨Nat.le_of_ble_eq_true rfl, Nat.le_of_ble_eq_true rfl⟩ rfl rfl (Nat.le_of_ble_eq_true rfl) (fun r s1 h => ?_)
      obtain ⟨rfl, rfl⟩ := h
      refine g_if_ne eX12_mask_27 (fun hc => ?_) (fun hc => ?_)
      · rw [b2_ne0] at hc
        obtain ⟨i, hi, rfl⟩ := as_nI (x := k) (n := nk) (by have := hb.1; rw [h1, nI_toInt (by omega)] at this; exact this)
        have e : (nI i).toInt.toNat = i := nI_clamp (by omega)
        have hfr := fB_rng (h6 i hi) h5
        refine g_ald0 eX12_mask_34 ?_
        refine g_ild1 eX12_mask_35 ?_
        refine g_ald0 eX12_mask_36 ?_
        refine g_ild1 eX12_mask_37 ?_
        refine g_ild2 eX12_mask_38 ?_
        refine g_ild3 eX12_mask_39 ?_
        refine g_callVl (ci := 11) (w_freshOf _ i (by omega) (h6 i hi) h5 m0 seed (by omega)) rfl (Nat.le_of_ble_eq_true rfl) (Nat.le_of_ble_eq_true rfl) rfl cv_X12_418 eX12_mask_40 ⟨Nat.le_of_ble_eq_true rfl, Nat.le_of_ble_eq_true rfl⟩ rfl rfl (Nat.le_of_ble_eq_true rfl) (fun c s1 hcc => ?_)
        obtain ⟨rfl, hcc⟩ := hcc
        refine g_ald0 eX12_mask_43 ?_
        refine g_ild1 eX12_mask_44 ?_
        refine g_callVl (ci := 11) (w_freshBound _ i (by omega) (h6 i hi) h5) rfl (Nat.le_of_ble_eq_true rfl) (Nat.le_of_ble_eq_true rfl) rfl cv_X12_422 eX12_mask_45 ⟨Nat.le_of_ble_eq_true rfl, Nat.le_of_ble_eq_true rfl⟩ rfl rfl (Nat.le_of_ble_eq_true rfl) (fun b s1 hbb => ?_)
        obtain ⟨rfl, hbb⟩ := hbb
        refine g_iconst (v := 0) (by decide) eX12_mask_48 ?_
        refine g_callVi (ci := 11) (w_seals _ n h3 (by omega) (nI i) 0 c b) rfl (Nat.le_of_ble_eq_true rfl) (Nat.le_of_ble_eq_true rfl) rfl cv_X12_425 eX12_mask_49 ⟨Nat.le_of_ble_eq_true rfl, Nat.le_of_ble_eq_true rfl⟩ rfl rfl (Nat.le_of_ble_eq_true rfl) (fun r u h => ?_)
        obtain ⟨rfl, b9, hb9, rfl⟩ := h
        refine g_iret rfl eX12_mask_52 ⟨_, rfl, ?_⟩
        try dsimp only
        rw [if_pos ⟨⟨hb, hc⟩, by omega⟩, e]
        exact ⟨rfl, c, b9, hcc, by rw [hb9, hbb]; show min 1000000 (fBm s1 i) = fBm s1 i; omega, _, _, by rw [mkS_same]⟩
      · rw [b2_eq0] at hc
        refine g_iconst (v := (-1)) (by decide) eX12_mask_30 ?_
        refine g_goto eX12_mask_31 ?_
        refine g_iret rfl eX12_mask_52 ⟨_, rfl, ?_⟩
        try dsimp only
        rw [if_neg (fun h => hc h.1.2)]
        exact ⟨rfl, rfl⟩
set_option maxHeartbeats 8000000 in
theorem w_work (st s1 : St) (hT : sI st 31 18 0 = s1) {nk n : Nat} (hx : mOK s1 nk n) (k a b : Int32) : Mi l D cy 3 YX12_work [.ref 31, .int k, .int a, .int b] st (fun r u => if ((0 ≤ k.toInt ∧ k.toInt ≤ 2) ∧ isS n a ∧ isS n b ∧ mK s1 a = mK s1 b ∧ alvM s1 (mK s1 a)) ∧ n ≠ 60 then adM s1 n (mK s1 a) (k + 1) (workF (k.toInt + 1) (mC s1 a) (mC s1 b) (mP s1 (mK s1 a) * (s1.1 64 (mK s1 a)).toInt)) (boundF (k.toInt + 1) (mB s1 a) (mB s1 b)) r u else r = -1 ∧ u = s1) := by
  obtain ⟨h1, h2, h3, h4, h5, h6, h7, h8, h9⟩ := hx
  have etn : (nI n).toInt = n := nI_toInt (by omega)
  have hcn : (s1.1 31 58).toInt = n := by rw [h3, etn]
  have hck : (s1.1 31 53).toInt = nk := by rw [h1, nI_toInt (by omega)]
  refine M.ofG [some (.ref 31), some (.int k), some (.int a), some (.int b)] (by decide) (Nat.le_of_ble_eq_true rfl) rfl ?_
  intro xp xe xs xm xa xb xme xc xad xA
  have bad : ¬ (((0 ≤ k.toInt ∧ k.toInt ≤ 2) ∧ isS n a ∧ isS n b ∧ mK s1 a = mK s1 b ∧ alvM s1 (mK s1 a)) ∧ n ≠ 60) → G xp l xe (rmd (3)) xs xm xa xb xme xc D cy xad xA (YX12_work.2.1, YX12_work.1.cls, YX12_work.2.2.1, YX12_work.2.2.2) (Pi (fun (r : Int32) (u : St) => if ((0 ≤ k.toInt ∧ k.toInt ≤ 2) ∧ isS n a ∧ isS n b ∧ mK s1 a = mK s1 b ∧ alvM s1 (mK s1 a)) ∧ n ≠ 60 then adM s1 n (mK s1 a) (k + 1) (workF (k.toInt + 1) (mC s1 a) (mC s1 b) (mP s1 (mK s1 a) * (s1.1 64 (mK s1 a)).toInt)) (boundF (k.toInt + 1) (mB s1 a) (mB s1 b)) r u else r = -1 ∧ u = s1)) 68 ([some (.ref 31), some (.int k), some (.int a), some (.int b)]) ([]) (s1) := by
    intro hn
    refine g_iconst (v := (-1)) (by decide) eX12_work_68 ?_
    refine g_iret rfl eX12_work_69 ⟨_, rfl, ?_⟩
    try dsimp only
    rw [if_neg hn]
    exact ⟨rfl, rfl⟩
  refine g_ald0 eX12_work_0 ?_
  refine g_iconst (v := 0) (by decide) eX12_work_1 ?_
  refine g_putI (ci := 11) (j := 18) rfl rfl (Nat.le_of_ble_eq_true rfl) (Nat.le_of_ble_eq_true rfl) (Nat.le_of_ble_eq_true rfl) rfl fl_X12_177 eX12_work_2 ?_
  rw [hT]
  refine g_ald0 eX12_work_5 ?_
  refine g_getI (ci := 11) (j := 58) rfl (Nat.le_of_ble_eq_true rfl) (Nat.le_of_ble_eq_true rfl) (Nat.le_of_ble_eq_true rfl) rfl fl_X12_408 eX12_work_6 ?_
  refine g_bipush (v := 60) (by decide) eX12_work_9 ?_
  rw [h3]
  refine g_icmp_eq eX12_work_11 (fun hf => ?_) (fun hf => ?_)
  · simp only [fa_eq, Int32.reduceToInt, etn] at hf
    exact bad (fun h => h.2 (by omega))
  · simp only [fa_eq, Int32.reduceToInt, etn] at hf
    refine g_ild1 eX12_work_14 ?_
    refine g_iconst (v := 0) (by decide) eX12_work_15 ?_
    refine g_iconst (v := 2) (by decide) eX12_work_16 ?_
    refine g_callSi (w_in _ k 0 2) cs_X12_378 eX12_work_17 ⟨Nat.le_of_ble_eq_true rfl, Nat.le_of_ble_eq_true rfl⟩ rfl rfl (Nat.le_of_ble_eq_true rfl) (fun r s1 h => ?_)
    obtain ⟨rfl, rfl⟩ := h
    have e0 : (0 : Int32).toInt = 0 := rfl
    have e2 : (2 : Int32).toInt = 2 := rfl
    rw [e0, e2]
    refine g_if_eq eX12_work_20 (fun hk => ?_) (fun hk => ?_)
    · rw [b2_eq0] at hk
      exact bad (fun h => hk h.1.1)
    · rw [b2_ne0] at hk
      refine g_ald0 eX12_work_23 ?_
      refine g_ild2 eX12_work_24 ?_
      refine g_callVi (ci := 11) (w_isSealed _ a) rfl (Nat.le_of_ble_eq_true rfl) (Nat.le_of_ble_eq_true rfl) rfl cv_X12_436 eX12_work_25 ⟨Nat.le_of_ble_eq_true rfl, Nat.le_of_ble_eq_true rfl⟩ rfl rfl (Nat.le_of_ble_eq_true rfl) (fun r s1 h => ?_)
      obtain ⟨rfl, rfl⟩ := h
      refine g_if_eq eX12_work_28 (fun ha => ?_) (fun ha => ?_)
      · rw [b2_eq0, hcn] at ha
        exact bad (fun h => ha h.1.2.1)
      · rw [b2_ne0, hcn] at ha
        refine g_ald0 eX12_work_31 ?_
        refine g_ild3 eX12_work_32 ?_
        refine g_callVi (ci := 11) (w_isSealed _ b) rfl (Nat.le_of_ble_eq_true rfl) (Nat.le_of_ble_eq_true rfl) rfl cv_X12_436 eX12_work_33 ⟨Nat.le_of_ble_eq_true rfl, Nat.le_of_ble_eq_true rfl⟩ rfl rfl (Nat.le_of_ble_eq_true rfl) (fun r s1 h => ?_)
        obtain ⟨rfl, rfl⟩ := h
        refine g_if_eq eX12_work_36 (fun hbb => ?_) (fun hbb => ?_)
        · rw [b2_eq0, hcn] at hbb
          exact bad (fun h => hbb h.1.2.2.1)
        · rw [b2_ne0, hcn] at hbb
          obtain ⟨a9, ha9, rfl⟩ := as_nI ha
          obtain ⟨b9, hb9, rfl⟩ := as_nI hbb
          have hca : (nI a9).toNatClampNeg = a9 := nI_clamp (by omega)
          have hcb : (nI b9).toNatClampNeg = b9 := nI_clamp (by omega)
          have eta : (nI a9).toInt.toNat = a9 := hca
          have etb : (nI b9).toInt.toNat = b9 := hcb
          obtain ⟨i, hi, hki⟩ := h7 a9 ha9
          obtain ⟨j, hj, hkj⟩ := h7 b9 hb9
          have eki : (nI i).toInt = i := nI_toInt (by omega)
          have ekj : (nI j).toInt = j := nI_toInt (by omega)
          have hci : (nI i).toNatClampNeg = i := nI_clamp (by omega)
          have mKa : mK s1 (nI a9) = i := by show (s1.1 67 (nI a9).toInt.toNat).toInt.toNat = i; rw [eta, hki]; omega
          have mKb : mK s1 (nI b9) = j := by show (s1.1 67 (nI b9).toInt.toNat).toInt.toNat = j; rw [etb, hkj]; omega
          refine g_ald0 eX12_work_39 ?_
          refine g_getR (ci := 11) (j := 59) rfl (Nat.le_of_ble_eq_true rfl) (Nat.le_of_ble_eq_true rfl) (Nat.le_of_ble_eq_true rfl) rfl rfl fl_X12_122 eX12_work_40 ?_
          refine g_ild2 eX12_work_43 ?_
          refine g_iald rfl (Nat.le_of_ble_eq_true rfl) (rowIx ha9 h4) eX12_work_44 ?_
          refine g_ald0 eX12_work_45 ?_
          refine g_getR (ci := 11) (j := 59) rfl (Nat.le_of_ble_eq_true rfl) (Nat.le_of_ble_eq_true rfl) (Nat.le_of_ble_eq_true rfl) rfl rfl fl_X12_122 eX12_work_46 ?_
          refine g_ild3 eX12_work_49 ?_
          refine g_iald rfl (Nat.le_of_ble_eq_true rfl) (rowIx hb9 h4) eX12_work_50 ?_
          rw [hca, hcb, hki, hkj]
          refine g_icmp_ne eX12_work_51 (fun hne => ?_) (fun hne => ?_)
          · exact bad (fun h => hne (by have := h.1.2.2.2.1; rw [mKa, mKb] at this; rw [this]))
          · have hij : i = j := by rw [fa_eq, eki, ekj] at hne; omega
            subst hij
            refine g_ald0 eX12_work_54 ?_
            refine g_getR (ci := 11) (j := 57) rfl (Nat.le_of_ble_eq_true rfl) (Nat.le_of_ble_eq_true rfl) (Nat.le_of_ble_eq_true rfl) rfl rfl fl_X12_118 eX12_work_55 ?_
            refine g_ald0 eX12_work_58 ?_
            refine g_getR (ci := 11) (j := 59) rfl (Nat.le_of_ble_eq_true rfl) (Nat.le_of_ble_eq_true rfl) (Nat.le_of_ble_eq_true rfl) rfl rfl fl_X12_122 eX12_work_59 ?_
            refine g_ild2 eX12_work_62 ?_
            refine g_iald rfl (Nat.le_of_ble_eq_true rfl) (rowIx ha9 h4) eX12_work_63 ?_
            rw [hca, hki]
            refine g_zald rfl (Nat.le_of_ble_eq_true rfl) (vp_in_nI (n := i) (N := 4) (by omega) (by decide)) eX12_work_64 ?_
            rw [hci]
            refine g_if_eq eX12_work_65 (fun hal => ?_) (fun hal => ?_)
            · have halv : alvM s1 (mK s1 (nI a9)) := by rw [mKa]; exact ⟨by omega, by rw [Int.toNat_natCast]; exact hal⟩
              have ek1 : (k + 1).toInt = k.toInt + 1 := by rw [fb_addI] <;> rw [o32] <;> omega
              have ca := h9 a9 ha9
              have cb := h9 b9 hb9
              refine g_ald0 eX12_work_70 ?_
              refine g_ild1 eX12_work_71 ?_
              refine g_iconst (v := 1) (by decide) eX12_work_72 ?_
              refine g_iadd eX12_work_73 ?_
              refine g_ald0 eX12_work_74 ?_
              refine g_getR (ci := 11) (j := 59) rfl (Nat.le_of_ble_eq_true rfl) (Nat.le_of_ble_eq_true rfl) (Nat.le_of_ble_eq_true rfl) rfl rfl fl_X12_122 eX12_work_75 ?_
              refine g_ild2 eX12_work_78 ?_
              refine g_iald rfl (Nat.le_of_ble_eq_true rfl) (rowIx ha9 h4) eX12_work_79 ?_
              rw [hca, hki]
              refine g_ald0 eX12_work_80 ?_
              refine g_getR (ci := 11) (j := 60) rfl (Nat.le_of_ble_eq_true rfl) (Nat.le_of_ble_eq_true rfl) (Nat.le_of_ble_eq_true rfl) rfl rfl fl_X12_125 eX12_work_81 ?_
              refine g_ild2 eX12_work_84 ?_
              refine g_lald rfl (Nat.le_of_ble_eq_true rfl) (rowIx ha9 h4) eX12_work_85 ?_
              refine g_ald0 eX12_work_86 ?_
              refine g_getR (ci := 11) (j := 61) rfl (Nat.le_of_ble_eq_true rfl) (Nat.le_of_ble_eq_true rfl) (Nat.le_of_ble_eq_true rfl) rfl rfl fl_X12_128 eX12_work_87 ?_
              refine g_ild2 eX12_work_90 ?_
              refine g_lald rfl (Nat.le_of_ble_eq_true rfl) (rowIx ha9 h4) eX12_work_91 ?_
              refine g_ald0 eX12_work_92 ?_
              refine g_getR (ci := 11) (j := 60) rfl (Nat.le_of_ble_eq_true rfl) (Nat.le_of_ble_eq_true rfl) (Nat.le_of_ble_eq_true rfl) rfl rfl fl_X12_125 eX12_work_93 ?_
              refine g_ild3 eX12_work_96 ?_
              refine g_lald rfl (Nat.le_of_ble_eq_true rfl) (rowIx hb9 h4) eX12_work_97 ?_
              refine g_ald0 eX12_work_98 ?_
              refine g_getR (ci := 11) (j := 61) rfl (Nat.le_of_ble_eq_true rfl) (Nat.le_of_ble_eq_true rfl) (Nat.le_of_ble_eq_true rfl) rfl rfl fl_X12_128 eX12_work_99 ?_
              refine g_ild3 eX12_work_102 ?_
              refine g_lald rfl (Nat.le_of_ble_eq_true rfl) (rowIx hb9 h4) eX12_work_103 ?_
              rw [hca, hcb]
              refine g_callVv (ci := 11) (w_makes _ (k + 1) i (by omega) (h6 i hi) _ _ _ _ (by omega) (by omega) (h8 a9 ha9) (by omega) (h8 b9 hb9) (by omega)) rfl (Nat.le_of_ble_eq_true rfl) (Nat.le_of_ble_eq_true rfl) rfl cv_X12_439 eX12_work_104 ⟨Nat.le_of_ble_eq_true rfl, Nat.le_of_ble_eq_true rfl⟩ rfl rfl (Nat.le_of_ble_eq_true rfl) (fun u h => ?_)
              obtain ⟨c, d, hc, hd, rfl⟩ := h
              rw [ek1] at hc hd
              rw [if_neg (by omega)] at hd
              refine g_ald0 eX12_work_107 ?_
              refine g_ald0 eX12_work_108 ?_
              refine g_getR (ci := 11) (j := 59) rfl (Nat.le_of_ble_eq_true rfl) (Nat.le_of_ble_eq_true rfl) (Nat.le_of_ble_eq_true rfl) rfl rfl fl_X12_122 eX12_work_109 ?_
              refine g_ild2 eX12_work_112 ?_
              refine g_iald rfl (Nat.le_of_ble_eq_true rfl) (rowIx ha9 h4) eX12_work_113 ?_
              rw [mkS_1, hca, hki]
              refine g_ald0 eX12_work_114 ?_
              refine g_getL (ci := 11) (j := 63) rfl (Nat.le_of_ble_eq_true rfl) (Nat.le_of_ble_eq_true rfl) (Nat.le_of_ble_eq_true rfl) rfl fl_X12_429 eX12_work_115 ?_
              refine g_ald0 eX12_work_118 ?_
              refine g_getL (ci := 11) (j := 64) rfl (Nat.le_of_ble_eq_true rfl) (Nat.le_of_ble_eq_true rfl) (Nat.le_of_ble_eq_true rfl) rfl fl_X12_433 eX12_work_119 ?_
              refine g_ild1 eX12_work_122 ?_
              refine g_iconst (v := 1) (by decide) eX12_work_123 ?_
              refine g_iadd eX12_work_124 ?_
              rw [mkS_C, mkS_B]
              refine g_callVi (ci := 11) (w_seals _ n (by rw [mkS_1]; exact h3) (by omega) (nI i) (k + 1) c d) rfl (Nat.le_of_ble_eq_true rfl) (Nat.le_of_ble_eq_true rfl) rfl cv_X12_425 eX12_work_125 ⟨Nat.le_of_ble_eq_true rfl, Nat.le_of_ble_eq_true rfl⟩ rfl rfl (Nat.le_of_ble_eq_true rfl) (fun r u h => ?_)
              obtain ⟨rfl, d9, hd9, rfl⟩ := h
              refine g_iret rfl eX12_work_128 ⟨_, rfl, ?_⟩
              try dsimp only
              rw [if_pos ⟨⟨by omega, ha, hbb, by rw [mKa, mKb], halv⟩, by omega⟩, mKa]
              have hbr := bound_rng (k.toInt + 1) (s1.2 69 a9).toInt (s1.2 69 b9).toInt (h8 a9 ha9).1
              unfold adM
              show nI n = nI n ∧ ∃ c b : Int64, c.toInt = workF (k.toInt + 1) (s1.2 68 (nI a9).toInt.toNat).toInt (s1.2 68 (nI b9).toInt.toNat).toInt _ ∧ b.toInt = boundF (k.toInt + 1) (s1.2 69 (nI a9).toInt.toNat).toInt (s1.2 69 (nI b9).toInt.toNat).toInt ∧ _
              rw [eta, etb]
              exact ⟨rfl, c, d9, hc, by rw [hd9, hd]; omega, c, d, rfl⟩
            · exact bad (fun h => by
                have h8 := h.1.2.2.2.2
                rw [mKa] at h8
                have h7 := h8.2
                rw [Int.toNat_natCast] at h7
                exact hal h7)
set_option maxHeartbeats 8000000 in
theorem w_plain (st s1 : St) (hT : sI st 31 18 0 = s1) {nk n : Nat} (hx : mOK s1 nk n) (k a z : Int32) : Mi l D cy 3 YX12_plain [.ref 31, .int k, .int a, .int z] st (fun r u => if (isS n a ∧ alvM s1 (mK s1 a) ∧ plainWk (s1.1 31 17).toInt k.toInt z.toInt) ∧ n ≠ 60 then adM s1 n (mK s1 a) (k + 1) (workF (k.toInt + 1) (mC s1 a) z.toInt (mP s1 (mK s1 a) * (s1.1 64 (mK s1 a)).toInt)) (boundF (k.toInt + 1) (mB s1 a) z.toInt) r u else r = -1 ∧ u = s1) := by
  obtain ⟨h1, h2, h3, h4, h5, h6, h7, h8, h9⟩ := hx
  have etn : (nI n).toInt = n := nI_toInt (by omega)
  have hcn : (s1.1 31 58).toInt = n := by rw [h3, etn]
  have hck : (s1.1 31 53).toInt = nk := by rw [h1, nI_toInt (by omega)]
  have hneg : (-(s1.1 31 17)).toInt = -(s1.1 31 17).toInt := fb_negI (by omega)
  have e3 : (3 : Int32).toInt = 3 := rfl
  have e4 : (4 : Int32).toInt = 4 := rfl
  refine M.ofG [some (.ref 31), some (.int k), some (.int a), some (.int z)] (by decide) (Nat.le_of_ble_eq_true rfl) rfl ?_
  intro xp xe xs xm xa xb xme xc xad xA
  have bad : ¬ ((isS n a ∧ alvM s1 (mK s1 a) ∧ plainWk (s1.1 31 17).toInt k.toInt z.toInt) ∧ n ≠ 60) → G xp l xe (rmd (3)) xs xm xa xb xme xc D cy xad xA (YX12_plain.2.1, YX12_plain.1.cls, YX12_plain.2.2.1, YX12_plain.2.2.2) (Pi (fun (r : Int32) (u : St) => if (isS n a ∧ alvM s1 (mK s1 a) ∧ plainWk (s1.1 31 17).toInt k.toInt z.toInt) ∧ n ≠ 60 then adM s1 n (mK s1 a) (k + 1) (workF (k.toInt + 1) (mC s1 a) z.toInt (mP s1 (mK s1 a) * (s1.1 64 (mK s1 a)).toInt)) (boundF (k.toInt + 1) (mB s1 a) z.toInt) r u else r = -1 ∧ u = s1)) 77 ([some (.ref 31), some (.int k), some (.int a), some (.int z)]) ([]) (s1) := by
    intro hn
    refine g_iconst (v := (-1)) (by decide) eX12_plain_77 ?_
    refine g_iret rfl eX12_plain_78 ⟨_, rfl, ?_⟩
    try dsimp only
    rw [if_neg hn]
    exact ⟨rfl, rfl⟩
  refine g_ald0 eX12_plain_0 ?_
  refine g_iconst (v := 0) (by decide) eX12_plain_1 ?_
  refine g_putI (ci := 11) (j := 18) rfl rfl (Nat.le_of_ble_eq_true rfl) (Nat.le_of_ble_eq_true rfl) (Nat.le_of_ble_eq_true rfl) rfl fl_X12_177 eX12_plain_2 ?_
  rw [hT]
  refine g_ald0 eX12_plain_5 ?_
  refine g_getI (ci := 11) (j := 58) rfl (Nat.le_of_ble_eq_true rfl) (Nat.le_of_ble_eq_true rfl) (Nat.le_of_ble_eq_true rfl) rfl fl_X12_408 eX12_plain_6 ?_
  refine g_bipush (v := 60) (by decide) eX12_plain_9 ?_
  rw [h3]
  refine g_icmp_eq eX12_plain_11 (fun hf => ?_) (fun hf => ?_)
  · simp only [fa_eq, Int32.reduceToInt, etn] at hf
    exact bad (fun h => h.2 (by omega))
  · simp only [fa_eq, Int32.reduceToInt, etn] at hf
    refine g_ild1 eX12_plain_14 ?_
    refine g_iconst (v := 3) (by decide) eX12_plain_15 ?_
    refine g_iconst (v := 4) (by decide) eX12_plain_16 ?_
    refine g_callSi (w_in _ k 3 4) cs_X12_378 eX12_plain_17 ⟨Nat.le_of_ble_eq_true rfl, Nat.le_of_ble_eq_true rfl⟩ rfl rfl (Nat.le_of_ble_eq_true rfl) (fun r s1 h => ?_)
    obtain ⟨rfl, rfl⟩ := h
    rw [e3, e4]
    refine g_if_eq eX12_plain_20 (fun hk => ?_) (fun hk => ?_)
    · rw [b2_eq0] at hk
      exact bad (fun h => hk (by have := h.1.2.2; omega))
    · rw [b2_ne0] at hk
      refine g_ald0 eX12_plain_23 ?_
      refine g_ild2 eX12_plain_24 ?_
      refine g_callVi (ci := 11) (w_isSealed _ a) rfl (Nat.le_of_ble_eq_true rfl) (Nat.le_of_ble_eq_true rfl) rfl cv_X12_436 eX12_plain_25 ⟨Nat.le_of_ble_eq_true rfl, Nat.le_of_ble_eq_true rfl⟩ rfl rfl (Nat.le_of_ble_eq_true rfl) (fun r s1 h => ?_)
      obtain ⟨rfl, rfl⟩ := h
      refine g_if_eq eX12_plain_28 (fun ha => ?_) (fun ha => ?_)
      · rw [b2_eq0, hcn] at ha
        exact bad (fun h => ha h.1.1)
      · rw [b2_ne0, hcn] at ha
        obtain ⟨a9, ha9, rfl⟩ := as_nI ha
        have hca : (nI a9).toNatClampNeg = a9 := nI_clamp (by omega)
        have eta : (nI a9).toInt.toNat = a9 := hca
        obtain ⟨i, hi, hki⟩ := h7 a9 ha9
        have eki : (nI i).toInt = i := nI_toInt (by omega)
        have hci : (nI i).toNatClampNeg = i := nI_clamp (by omega)
        have mKa : mK s1 (nI a9) = i := by show (s1.1 67 (nI a9).toInt.toNat).toInt.toNat = i; rw [eta, hki]; omega
        refine g_ald0 eX12_plain_31 ?_
        refine g_getR (ci := 11) (j := 57) rfl (Nat.le_of_ble_eq_true rfl) (Nat.le_of_ble_eq_true rfl) (Nat.le_of_ble_eq_true rfl) rfl rfl fl_X12_118 eX12_plain_32 ?_
        refine g_ald0 eX12_plain_35 ?_
        refine g_getR (ci := 11) (j := 59) rfl (Nat.le_of_ble_eq_true rfl) (Nat.le_of_ble_eq_true rfl) (Nat.le_of_ble_eq_true rfl) rfl rfl fl_X12_122 eX12_plain_36 ?_
        refine g_ild2 eX12_plain_39 ?_
        refine g_iald rfl (Nat.le_of_ble_eq_true rfl) (rowIx ha9 h4) eX12_plain_40 ?_
        rw [hca, hki]
        refine g_zald rfl (Nat.le_of_ble_eq_true rfl) (vp_in_nI (n := i) (N := 4) (by omega) (by decide)) eX12_plain_41 ?_
        rw [hci]
        refine g_if_ne eX12_plain_42 (fun hal => ?_) (fun hal => ?_)
        · exact bad (fun h => by
            have q8 := h.1.2.1
            rw [mKa] at q8
            have q7 := q8.2
            rw [Int.toNat_natCast] at q7
            exact hal q7)
        · have halv : alvM s1 (mK s1 (nI a9)) := by rw [mKa]; exact ⟨by omega, by rw [Int.toNat_natCast]; exact hal⟩
          have ek1 : (k + 1).toInt = k.toInt + 1 := by rw [fb_addI] <;> rw [o32] <;> omega
          have ca := h9 a9 ha9
          have good : plainWk (s1.1 31 17).toInt k.toInt z.toInt → G xp l xe (rmd (3)) xs xm xa xb xme xc D cy xad xA (YX12_plain.2.1, YX12_plain.1.cls, YX12_plain.2.2.1, YX12_plain.2.2.2) (Pi (fun (r : Int32) (u : St) => if (isS n (nI a9) ∧ alvM s1 (mK s1 (nI a9)) ∧ plainWk (s1.1 31 17).toInt k.toInt z.toInt) ∧ n ≠ 60 then adM s1 n (mK s1 (nI a9)) (k + 1) (workF (k.toInt + 1) (mC s1 (nI a9)) z.toInt (mP s1 (mK s1 (nI a9)) * (s1.1 64 (mK s1 (nI a9))).toInt)) (boundF (k.toInt + 1) (mB s1 (nI a9)) z.toInt) r u else r = -1 ∧ u = s1)) 79 ([some (.ref 31), some (.int k), some (.int (nI a9)), some (.int z)]) ([]) (s1) := by
            intro hpw
            have hz : -13 ≤ z.toInt ∧ z.toInt ≤ 13 := by omega
            refine g_ald0 eX12_plain_79 ?_
            refine g_ild1 eX12_plain_80 ?_
            refine g_iconst (v := 1) (by decide) eX12_plain_81 ?_
            refine g_iadd eX12_plain_82 ?_
            refine g_ald0 eX12_plain_83 ?_
            refine g_getR (ci := 11) (j := 59) rfl (Nat.le_of_ble_eq_true rfl) (Nat.le_of_ble_eq_true rfl) (Nat.le_of_ble_eq_true rfl) rfl rfl fl_X12_122 eX12_plain_84 ?_
            refine g_ild2 eX12_plain_87 ?_
            refine g_iald rfl (Nat.le_of_ble_eq_true rfl) (rowIx ha9 h4) eX12_plain_88 ?_
            rw [hca, hki]
            refine g_ald0 eX12_plain_89 ?_
            refine g_getR (ci := 11) (j := 60) rfl (Nat.le_of_ble_eq_true rfl) (Nat.le_of_ble_eq_true rfl) (Nat.le_of_ble_eq_true rfl) rfl rfl fl_X12_125 eX12_plain_90 ?_
            refine g_ild2 eX12_plain_93 ?_
            refine g_lald rfl (Nat.le_of_ble_eq_true rfl) (rowIx ha9 h4) eX12_plain_94 ?_
            refine g_ald0 eX12_plain_95 ?_
            refine g_getR (ci := 11) (j := 61) rfl (Nat.le_of_ble_eq_true rfl) (Nat.le_of_ble_eq_true rfl) (Nat.le_of_ble_eq_true rfl) rfl rfl fl_X12_128 eX12_plain_96 ?_
            refine g_ild2 eX12_plain_99 ?_
            refine g_lald rfl (Nat.le_of_ble_eq_true rfl) (rowIx ha9 h4) eX12_plain_100 ?_
            refine g_ild3 eX12_plain_101 ?_
            refine g_i2l eX12_plain_102 ?_
            refine g_lconst (v := 0) rfl eX12_plain_103 ?_
            rw [hca]
            refine g_callVv (ci := 11) (w_makes _ (k + 1) i (by omega) (h6 i hi) _ _ _ _ (by omega) (by omega) (h8 a9 ha9) (by rw [tl]; omega) (by decide) (by rw [tl]; omega)) rfl (Nat.le_of_ble_eq_true rfl) (Nat.le_of_ble_eq_true rfl) rfl cv_X12_439 eX12_plain_104 ⟨Nat.le_of_ble_eq_true rfl, Nat.le_of_ble_eq_true rfl⟩ rfl rfl (Nat.le_of_ble_eq_true rfl) (fun u h => ?_)
            obtain ⟨c, d, hc, hd, rfl⟩ := h
            rw [ek1, tl] at hc hd
            rw [if_pos (by omega)] at hd
            refine g_ald0 eX12_plain_107 ?_
            refine g_ald0 eX12_plain_108 ?_
            refine g_getR (ci := 11) (j := 59) rfl (Nat.le_of_ble_eq_true rfl) (Nat.le_of_ble_eq_true rfl) (Nat.le_of_ble_eq_true rfl) rfl rfl fl_X12_122 eX12_plain_109 ?_
            refine g_ild2 eX12_plain_112 ?_
            refine g_iald rfl (Nat.le_of_ble_eq_true rfl) (rowIx ha9 h4) eX12_plain_113 ?_
            rw [mkS_1, hca, hki]
            refine g_ald0 eX12_plain_114 ?_
            refine g_getL (ci := 11) (j := 63) rfl (Nat.le_of_ble_eq_true rfl) (Nat.le_of_ble_eq_true rfl) (Nat.le_of_ble_eq_true rfl) rfl fl_X12_429 eX12_plain_115 ?_
            refine g_ald0 eX12_plain_118 ?_
            refine g_getL (ci := 11) (j := 64) rfl (Nat.le_of_ble_eq_true rfl) (Nat.le_of_ble_eq_true rfl) (Nat.le_of_ble_eq_true rfl) rfl fl_X12_433 eX12_plain_119 ?_
            refine g_ild1 eX12_plain_122 ?_
            refine g_iconst (v := 1) (by decide) eX12_plain_123 ?_
            refine g_iadd eX12_plain_124 ?_
            rw [mkS_C, mkS_B]
            refine g_callVi (ci := 11) (w_seals _ n (by rw [mkS_1]; exact h3) (by omega) (nI i) (k + 1) c d) rfl (Nat.le_of_ble_eq_true rfl) (Nat.le_of_ble_eq_true rfl) rfl cv_X12_425 eX12_plain_125 ⟨Nat.le_of_ble_eq_true rfl, Nat.le_of_ble_eq_true rfl⟩ rfl rfl (Nat.le_of_ble_eq_true rfl) (fun r u h => ?_)
            obtain ⟨rfl, d9, hd9, rfl⟩ := h
            refine g_iret rfl eX12_plain_128 ⟨_, rfl, ?_⟩
            try dsimp only
            rw [if_pos ⟨⟨ha, halv, hpw⟩, by omega⟩, mKa]
            have hbr := bound_rng (k.toInt + 1) (s1.2 69 a9).toInt z.toInt (h8 a9 ha9).1
            unfold adM
            show nI n = nI n ∧ ∃ c b : Int64, c.toInt = workF (k.toInt + 1) (s1.2 68 (nI a9).toInt.toNat).toInt z.toInt _ ∧ b.toInt = boundF (k.toInt + 1) (s1.2 69 (nI a9).toInt.toNat).toInt z.toInt ∧ _
            rw [eta]
            exact ⟨rfl, c, d9, hc, by rw [hd9, hd]; omega, c, d, rfl⟩
          refine g_ild1 eX12_plain_45 ?_
          refine g_iconst (v := 3) (by decide) eX12_plain_46 ?_
          refine g_icmp_ne eX12_plain_47 (fun h47 => ?_) (fun h47 => ?_)
          · rw [fa_eq, e3] at h47
            refine g_ild3 eX12_plain_61 ?_
            refine g_ald0 eX12_plain_62 ?_
            refine g_getI (ci := 11) (j := 17) rfl (Nat.le_of_ble_eq_true rfl) (Nat.le_of_ble_eq_true rfl) (Nat.le_of_ble_eq_true rfl) rfl fl_X12_174 eX12_plain_63 ?_
            refine g_ineg eX12_plain_66 ?_
            refine g_ald0 eX12_plain_67 ?_
            refine g_getI (ci := 11) (j := 17) rfl (Nat.le_of_ble_eq_true rfl) (Nat.le_of_ble_eq_true rfl) (Nat.le_of_ble_eq_true rfl) rfl fl_X12_174 eX12_plain_68 ?_
            refine g_callSi (w_in _ z _ _) cs_X12_378 eX12_plain_71 ⟨Nat.le_of_ble_eq_true rfl, Nat.le_of_ble_eq_true rfl⟩ rfl rfl (Nat.le_of_ble_eq_true rfl) (fun r s1 h => ?_)
            obtain ⟨rfl, rfl⟩ := h
            rw [hneg]
            refine g_if_ne eX12_plain_74 (fun hz => ?_) (fun hz => ?_)
            · rw [b2_ne0] at hz
              exact good (by omega)
            · rw [b2_eq0] at hz
              exact bad (fun h => hz (by have := h.1.2.2; omega))
          · rw [fa_eq, e3] at h47
            refine g_ald0 eX12_plain_50 ?_
            refine g_ild3 eX12_plain_51 ?_
            refine g_callVi (ci := 11) (w_isNumber _ z) rfl (Nat.le_of_ble_eq_true rfl) (Nat.le_of_ble_eq_true rfl) rfl cv_X12_415 eX12_plain_52 ⟨Nat.le_of_ble_eq_true rfl, Nat.le_of_ble_eq_true rfl⟩ rfl rfl (Nat.le_of_ble_eq_true rfl) (fun r s1 h => ?_)
            obtain ⟨rfl, rfl⟩ := h
            refine g_if_ne eX12_plain_55 (fun hz => ?_) (fun hz => ?_)
            · rw [b2_ne0] at hz
              exact good (by omega)
            · rw [b2_eq0] at hz
              refine g_goto eX12_plain_58 ?_
              exact bad (fun h => hz (by have := h.1.2.2; omega))
end MODC
