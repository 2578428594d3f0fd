/-! SealedSumsModel: choices, checks, count, the tape -/
section MODO
variable {l : Launch} {D : va_G} {cy : Nat → ClassId}
set_option maxHeartbeats 1000000 in
theorem w_choices (st : St) (n r : Int32) (hn : 0 ≤ n.toInt ∧ n.toInt ≤ 20) (hr : 0 ≤ r.toInt ∧ r.toInt ≤ 20) : Mi l D cy 0 YX12_choices [.int n, .int r] st (fun z u => u = st ∧ z.toInt = chF n.toInt r.toInt) := by
  refine M.ofG [some (.int n), some (.int r), none, none, none] (by decide) (Nat.le_of_ble_eq_true rfl) rfl ?_
  intro xp xe xs xm xa xb xme xc xad xA
  refine g_ild1 eX12_choices_0 ?_
  refine g_ild0 eX12_choices_1 ?_
  refine g_icmp_le eX12_choices_2 (fun h => ?_) (fun h => ?_)
  · rw [fa_le] at h
    have loop : ∀ (f : Nat) (w : Int64) (i : Int32), r.toInt + 1 - i.toInt = (f : Int) → 1 ≤ i.toInt → w.toInt = (chN n.toInt.toNat r.toInt.toNat (i.toInt - 1).toNat : Int) → G xp l xe (rmd (0)) xs xm xa xb xme xc D cy xad xA (YX12_choices.2.1, YX12_choices.1.cls, YX12_choices.2.2.1, YX12_choices.2.2.2) (Pi (fun (z : Int32) (u : St) => u = st ∧ z.toInt = chF n.toInt r.toInt)) 12 ([some (.int n), some (.int r), some (.long w), none, some (.int i)]) ([]) (st) := by
      intro f
      induction f with
      | zero =>
        intro w i hf hi hw
        refine g_ild4 eX12_choices_12 ?_
        refine g_ild1 eX12_choices_14 ?_
        refine g_icmp_gt eX12_choices_15 (fun h2 => ?_) (fun h2 => ?_)
        · refine g_lld2 eX12_choices_38 ?_
          refine g_l2i eX12_choices_39 ?_
          refine g_iret rfl eX12_choices_40 ⟨_, rfl, ?_⟩
          try dsimp only
          refine ⟨rfl, ?_⟩
          have hb := chN_le n.toInt.toNat (by omega) r.toInt.toNat (by omega) (by omega) r.toInt.toNat (by omega) (Nat.le_refl _)
          rw [show (i.toInt - 1).toNat = r.toInt.toNat by omega] at hw
          rw [l2i (by omega) (by omega), hw]
          unfold chF
          rw [if_neg (by omega)]
        · exfalso
          rw [fa_lt] at h2
          omega
      | succ f ih =>
        intro w i hf hi hw
        refine g_ild4 eX12_choices_12 ?_
        refine g_ild1 eX12_choices_14 ?_
        refine g_icmp_gt eX12_choices_15 (fun h2 => ?_) (fun h2 => ?_)
        · exfalso
          rw [fa_lt] at h2
          omega
        · have hb := chN_le n.toInt.toNat (by omega) r.toInt.toNat (by omega) (by omega) (i.toInt - 1).toNat (by omega) (by omega)
          have hs : (n - r).toInt = n.toInt - r.toInt := fb_subI (by omega) (by omega)
          have ha : (n - r + i).toInt = n.toInt - r.toInt + i.toInt := by rw [fb_addI] <;> rw [hs] <;> omega
          have hm : (w * (n - r + i).toInt64).toInt = w.toInt * (n.toInt - r.toInt + i.toInt) := by
            have q1 : w.toInt * (n.toInt - r.toInt + i.toInt) ≤ 200000 * 41 := Int.mul_le_mul (by omega) (by omega) (by omega) (by omega)
            have q0 : 0 ≤ w.toInt * (n.toInt - r.toInt + i.toInt) := Int.mul_nonneg (by omega) (by omega)
            rw [fb_mulL] <;> rw [tl, ha] <;> omega
          have q0 : 0 ≤ w.toInt * (n.toInt - r.toInt + i.toInt) := Int.mul_nonneg (by omega) (by omega)
          refine g_lld2 eX12_choices_18 ?_
          refine g_ild0 eX12_choices_19 ?_
          refine g_ild1 eX12_choices_20 ?_
          refine g_isub eX12_choices_21 ?_
          refine g_ild4 eX12_choices_22 ?_
          refine g_iadd eX12_choices_24 ?_
          refine g_i2l eX12_choices_25 ?_
          refine g_lmul eX12_choices_26 ?_
          refine g_ild4 eX12_choices_27 ?_
          refine g_i2l eX12_choices_29 ?_
          refine g_ldiv (fun e => by rw [fa_eq64, tl, z64] at e; omega) eX12_choices_30 ?_
          refine g_lst2 rfl (Nat.le_of_ble_eq_true rfl) eX12_choices_31 ?_
          have hi1 : (i + Int32.ofInt 1).toInt = i.toInt + 1 := by
            have : (Int32.ofInt 1).toInt = 1 := rfl
            rw [fb_addI] <;> rw [this] <;> omega
          refine g_inc4 rfl (Nat.le_of_ble_eq_true rfl) rfl eX12_choices_32 ?_
          refine g_goto eX12_choices_35 ?_
          refine ih _ _ (by rw [hi1]; omega) (by rw [hi1]; omega) ?_
          rw [Int64.toInt_div_of_ne_right _ _ (fun e => by rw [fa_eq64, tl] at e; have : (-1 : Int64).toInt = -1 := rfl; omega), hm, tl, Int.tdiv_eq_ediv_of_nonneg q0, hi1, show (i.toInt + 1 - 1).toNat = (i.toInt - 1).toNat + 1 by omega]
          show _ = ((chN _ _ _ * (n.toInt.toNat - r.toInt.toNat + ((i.toInt - 1).toNat + 1)) / ((i.toInt - 1).toNat + 1) : Nat) : Int)
          rw [hw]
          push_cast
          congr 1
          · congr 1
            omega
          · omega
    refine g_lconst (v := 1) rfl eX12_choices_7 ?_
    refine g_lst2 rfl (Nat.le_of_ble_eq_true rfl) eX12_choices_8 ?_
    refine g_iconst (v := 1) (by decide) eX12_choices_9 ?_
    refine g_ist4 rfl (Nat.le_of_ble_eq_true rfl) eX12_choices_10 ?_
    exact loop r.toInt.toNat 1 1 (by rw [o32]; omega) (by rw [o32]; omega) rfl
  · refine g_iconst (v := 0) (by decide) eX12_choices_5 ?_
    refine g_iret rfl eX12_choices_6 ⟨_, rfl, ?_⟩
    try dsimp only
    rw [fa_le] at h
    refine ⟨rfl, ?_⟩
    unfold chF
    rw [if_pos (by omega)]
    rfl
theorem w_checks (st s1 : St) (hT : sI st 31 18 0 = s1) (n w r k : Int32) : Mi l D cy 1 YX12_checks [.ref 31, .int n, .int w, .int r, .int k] st (fun z u => u = s1 ∧ z.toInt = chkF n.toInt w.toInt r.toInt k.toInt) := by
  have e0 : (0 : Int32).toInt = 0 := rfl
  have e1 : (1 : Int32).toInt = 1 := rfl
  have e20 : (20 : Int32).toInt = 20 := rfl
  refine M.ofG [some (.ref 31), some (.int n), some (.int w), some (.int r), some (.int k)] (by decide) (Nat.le_of_ble_eq_true rfl) rfl ?_
  intro xp xe xs xm xa xb xme xc xad xA
  have bad : chkF n.toInt w.toInt r.toInt k.toInt = -1 → G xp l xe (rmd (1)) xs xm xa xb xme xc D cy xad xA (YX12_checks.2.1, YX12_checks.1.cls, YX12_checks.2.2.1, YX12_checks.2.2.2) (Pi (fun (z : Int32) (u : St) => u = s1 ∧ z.toInt = chkF n.toInt w.toInt r.toInt k.toInt)) 43 ([some (.ref 31), some (.int n), some (.int w), some (.int r), some (.int k)]) ([]) (s1) := by
    intro hb
    refine g_iconst (v := (-1)) (by decide) eX12_checks_43 ?_
    refine g_iret rfl eX12_checks_44 ⟨_, rfl, ?_⟩
    try dsimp only
    exact ⟨rfl, hb.symm⟩
  refine g_ald0 eX12_checks_0 ?_
  refine g_iconst (v := 0) (by decide) eX12_checks_1 ?_
  refine g_putI (ci := 11) (j := 18) rfl rfl (Nat.le_of_ble_eq_true rfl) (Nat.le_of_ble_eq_true rfl) (Nat.le_of_ble_eq_true rfl) rfl fl_X12_177 eX12_checks_2 ?_
  rw [hT]
  refine g_ild1 eX12_checks_5 ?_
  refine g_iconst (v := 1) (by decide) eX12_checks_6 ?_
  refine g_bipush (v := 20) (by decide) eX12_checks_7 ?_
  refine g_callSi (w_in _ n 1 20) cs_X12_378 eX12_checks_9 ⟨Nat.le_of_ble_eq_true rfl, Nat.le_of_ble_eq_true rfl⟩ rfl rfl (Nat.le_of_ble_eq_true rfl) (fun b s1 h => ?_)
  obtain ⟨rfl, rfl⟩ := h
  rw [e1, e20]
  refine g_if_eq eX12_checks_12 (fun hb => ?_) (fun hb => ?_)
  · rw [b2_eq0] at hb
    exact bad (by unfold chkF; rw [if_neg (by omega)])
  · rw [b2_ne0] at hb
    refine g_ild2 eX12_checks_15 ?_
    refine g_iconst (v := 0) (by decide) eX12_checks_16 ?_
    refine g_ild1 eX12_checks_17 ?_
    refine g_callSi (w_in _ w 0 n) cs_X12_378 eX12_checks_18 ⟨Nat.le_of_ble_eq_true rfl, Nat.le_of_ble_eq_true rfl⟩ rfl rfl (Nat.le_of_ble_eq_true rfl) (fun b s1 h => ?_)
    obtain ⟨rfl, rfl⟩ := h
    rw [e0]
    refine g_if_eq eX12_checks_21 (fun hb2 => ?_) (fun hb2 => ?_)
    · rw [b2_eq0] at hb2
      exact bad (by unfold chkF; rw [if_neg (by omega)])
    · rw [b2_ne0] at hb2
      refine g_ild3 eX12_checks_24 ?_
      refine g_iconst (v := 0) (by decide) eX12_checks_25 ?_
      refine g_ild1 eX12_checks_26 ?_
      refine g_callSi (w_in _ r 0 n) cs_X12_378 eX12_checks_27 ⟨Nat.le_of_ble_eq_true rfl, Nat.le_of_ble_eq_true rfl⟩ rfl rfl (Nat.le_of_ble_eq_true rfl) (fun b s1 h => ?_)
      obtain ⟨rfl, rfl⟩ := h
      rw [e0]
      refine g_if_eq eX12_checks_30 (fun hb3 => ?_) (fun hb3 => ?_)
      · rw [b2_eq0] at hb3
        exact bad (by unfold chkF; rw [if_neg (by omega)])
      · rw [b2_ne0] at hb3
        refine g_ild4 eX12_checks_33 ?_
        refine g_iconst (v := 0) (by decide) eX12_checks_35 ?_
        refine g_iconst (v := 1) (by decide) eX12_checks_36 ?_
        refine g_callSi (w_in _ k 0 1) cs_X12_378 eX12_checks_37 ⟨Nat.le_of_ble_eq_true rfl, Nat.le_of_ble_eq_true rfl⟩ rfl rfl (Nat.le_of_ble_eq_true rfl) (fun b s1 h => ?_)
        obtain ⟨rfl, rfl⟩ := h
        rw [e0, e1]
        refine g_if_ne eX12_checks_40 (fun hb4 => ?_) (fun hb4 => ?_)
        · rw [b2_ne0] at hb4
          refine g_ild4 eX12_checks_45 ?_
          refine g_if_ne eX12_checks_47 (fun h47 => ?_) (fun h47 => ?_)
          · rw [fa_eq, e0] at h47
            have es : (n - w).toInt = n.toInt - w.toInt := by rw [fb_subI] <;> omega
            refine g_ild1 eX12_checks_58 ?_
            refine g_ild2 eX12_checks_59 ?_
            refine g_isub eX12_checks_60 ?_
            refine g_ild3 eX12_checks_61 ?_
            refine g_callSi (w_choices _ _ r (by rw [es]; omega) (by omega)) cs_X12_489 eX12_checks_62 ⟨Nat.le_of_ble_eq_true rfl, Nat.le_of_ble_eq_true rfl⟩ rfl rfl (Nat.le_of_ble_eq_true rfl) (fun z s1 h => ?_)
            obtain ⟨rfl, hz⟩ := h
            refine g_iret rfl eX12_checks_65 ⟨_, rfl, ?_⟩
            try dsimp only
            refine ⟨rfl, ?_⟩
            unfold chkF
            rw [if_pos (by omega), if_neg h47, if_pos (by omega), hz, es]
          · rw [fa_eq, e0] at h47
            refine g_ild1 eX12_checks_50 ?_
            refine g_ild3 eX12_checks_51 ?_
            refine g_callSi (w_choices _ n r (by omega) (by omega)) cs_X12_489 eX12_checks_52 ⟨Nat.le_of_ble_eq_true rfl, Nat.le_of_ble_eq_true rfl⟩ rfl rfl (Nat.le_of_ble_eq_true rfl) (fun z s1 h => ?_)
            obtain ⟨rfl, hz⟩ := h
            refine g_goto eX12_checks_55 ?_
            refine g_iret rfl eX12_checks_65 ⟨_, rfl, ?_⟩
            try dsimp only
            refine ⟨rfl, ?_⟩
            unfold chkF
            rw [if_pos (by omega), if_pos (by omega), hz]
        · rw [b2_eq0] at hb4
          exact bad (by unfold chkF; rw [if_pos (by omega), if_neg (by omega), if_neg (by omega)])
/-- counts of programs at the reference -/
def cntM (st : St) (np : Nat) (x : Int) : Int := if 10 ≤ x ∧ x < 10 + (np : Int) then (st.1 39 (x - 10).toNat).toInt else if 20 ≤ x ∧ x < 20 + (np : Int) then (st.1 40 (x - 20).toNat).toInt else -1
set_option maxHeartbeats 1000000 in
theorem w_count (st s1 : St) (hT : sI st 31 18 0 = s1) (np : Nat) (hn : s1.1 31 19 = nI np) (h4 : np ≤ 4) (x : Int32) : Mi l D cy 0 YX12_count [.ref 31, .int x] st (fun r u => u = s1 ∧ r.toInt = if x.toInt = 0 then (s1.1 31 53).toInt else if x.toInt = 1 then (s1.1 31 58).toInt else if x.toInt = 2 then (s1.1 31 19).toInt else if x.toInt = 3 then (s1.1 31 1).toInt else if x.toInt = 4 then (s1.1 31 65).toInt else if x.toInt = 5 then (s1.1 31 17).toInt else cntM s1 np x.toInt) := by
  have e10 : (10 : Int32).toInt = 10 := rfl
  have e20 : (20 : Int32).toInt = 20 := rfl
  refine M.ofG [some (.ref 31), some (.int x)] (by decide) (Nat.le_of_ble_eq_true rfl) rfl ?_
  intro xp xe xs xm xa xb xme xc xad xA
  refine g_ald0 eX12_count_0 ?_
  refine g_iconst (v := 0) (by decide) eX12_count_1 ?_
  refine g_putI (ci := 11) (j := 18) rfl rfl (Nat.le_of_ble_eq_true rfl) (Nat.le_of_ble_eq_true rfl) (Nat.le_of_ble_eq_true rfl) rfl fl_X12_177 eX12_count_2 ?_
  rw [hT]
  refine g_ild1 eX12_count_5 ?_
  by_cases c0 : x.toInt = 0
  · refine g_tableIn (off := 38) (tgt := 44) eX12_count_6 (by omega) (by omega) (by rw [c0]; rfl) (by decide) ?_
    refine g_ald0 eX12_count_44 ?_
    refine g_getI (ci := 11) (j := 53) rfl (Nat.le_of_ble_eq_true rfl) (Nat.le_of_ble_eq_true rfl) (Nat.le_of_ble_eq_true rfl) rfl fl_X12_385 eX12_count_45 ?_
    exact g_iret rfl eX12_count_48 ⟨_, rfl, ⟨rfl, by rw [if_pos c0]⟩⟩
  by_cases c1 : x.toInt = 1
  · refine g_tableIn (off := 43) (tgt := 49) eX12_count_6 (by omega) (by omega) (by rw [c1]; rfl) (by decide) ?_
    refine g_ald0 eX12_count_49 ?_
    refine g_getI (ci := 11) (j := 58) rfl (Nat.le_of_ble_eq_true rfl) (Nat.le_of_ble_eq_true rfl) (Nat.le_of_ble_eq_true rfl) rfl fl_X12_408 eX12_count_50 ?_
    exact g_iret rfl eX12_count_53 ⟨_, rfl, ⟨rfl, by rw [if_neg c0, if_pos c1]⟩⟩
  by_cases c2 : x.toInt = 2
  · refine g_tableIn (off := 48) (tgt := 54) eX12_count_6 (by omega) (by omega) (by rw [c2]; rfl) (by decide) ?_
    refine g_ald0 eX12_count_54 ?_
    refine g_getI (ci := 11) (j := 19) rfl (Nat.le_of_ble_eq_true rfl) (Nat.le_of_ble_eq_true rfl) (Nat.le_of_ble_eq_true rfl) rfl fl_X12_241 eX12_count_55 ?_
    exact g_iret rfl eX12_count_58 ⟨_, rfl, ⟨rfl, by rw [if_neg c0, if_neg c1, if_pos c2]⟩⟩
  by_cases c3 : x.toInt = 3
  · refine g_tableIn (off := 53) (tgt := 59) eX12_count_6 (by omega) (by omega) (by rw [c3]; rfl) (by decide) ?_
    refine g_ald0 eX12_count_59 ?_
    refine g_getI (ci := 11) (j := 1) rfl (Nat.le_of_ble_eq_true rfl) (Nat.le_of_ble_eq_true rfl) (Nat.le_of_ble_eq_true rfl) rfl fl_X12_180 eX12_count_60 ?_
    exact g_iret rfl eX12_count_63 ⟨_, rfl, ⟨rfl, by rw [if_neg c0, if_neg c1, if_neg c2, if_pos c3]⟩⟩
  by_cases c4 : x.toInt = 4
  · refine g_tableIn (off := 58) (tgt := 64) eX12_count_6 (by omega) (by omega) (by rw [c4]; rfl) (by decide) ?_
    refine g_ald0 eX12_count_64 ?_
    refine g_getI (ci := 11) (j := 65) rfl (Nat.le_of_ble_eq_true rfl) (Nat.le_of_ble_eq_true rfl) (Nat.le_of_ble_eq_true rfl) rfl fl_X12_458 eX12_count_65 ?_
    exact g_iret rfl eX12_count_68 ⟨_, rfl, ⟨rfl, by rw [if_neg c0, if_neg c1, if_neg c2, if_neg c3, if_pos c4]⟩⟩
  by_cases c5 : x.toInt = 5
  · refine g_tableIn (off := 63) (tgt := 69) eX12_count_6 (by omega) (by omega) (by rw [c5]; rfl) (by decide) ?_
    refine g_ald0 eX12_count_69 ?_
    refine g_getI (ci := 11) (j := 17) rfl (Nat.le_of_ble_eq_true rfl) (Nat.le_of_ble_eq_true rfl) (Nat.le_of_ble_eq_true rfl) rfl fl_X12_174 eX12_count_70 ?_
    exact g_iret rfl eX12_count_73 ⟨_, rfl, ⟨rfl, by rw [if_neg c0, if_neg c1, if_neg c2, if_neg c3, if_neg c4, if_pos c5]⟩⟩
  rw [if_neg c0, if_neg c1, if_neg c2, if_neg c3, if_neg c4, if_neg c5]
  refine g_tableOut (tgt := 74) eX12_count_6 (by omega) (by decide) ?_
  have two : ¬ (10 ≤ x.toInt ∧ x.toInt < 10 + (np : Int)) → G xp l xe (rmd (0)) xs xm xa xb xme xc D cy xad xA (YX12_count.2.1, YX12_count.1.cls, YX12_count.2.2.1, YX12_count.2.2.2) (Pi (fun (r : Int32) (u : St) => u = s1 ∧ r.toInt = cntM s1 np x.toInt)) 101 ([some (.ref 31), some (.int x)]) ([]) (s1) := by
    intro h1
    refine g_ild1 eX12_count_101 ?_
    refine g_bipush (v := 20) (by decide) eX12_count_102 ?_
    refine g_icmp_lt eX12_count_104 (fun h104 => ?_) (fun h104 => ?_)
    · rw [fa_lt, e20] at h104
      refine g_iconst (v := (-1)) (by decide) eX12_count_130 ?_
      refine g_iret rfl eX12_count_131 ⟨_, rfl, ?_⟩
      try dsimp only
      refine ⟨rfl, ?_⟩
      unfold cntM
      rw [if_neg h1, if_neg (by omega)]
      rfl
    · rw [fa_lt, e20] at h104
      have ea : ((20 : Int32) + nI np).toInt = 20 + np := by rw [fb_addI] <;> rw [e20, nI_toInt (by omega)] <;> omega
      refine g_ild1 eX12_count_107 ?_
      refine g_bipush (v := 20) (by decide) eX12_count_108 ?_
      refine g_ald0 eX12_count_110 ?_
      refine g_getI (ci := 11) (j := 19) rfl (Nat.le_of_ble_eq_true rfl) (Nat.le_of_ble_eq_true rfl) (Nat.le_of_ble_eq_true rfl) rfl fl_X12_241 eX12_count_111 ?_
      rw [hn]
      refine g_iadd eX12_count_114 ?_
      refine g_icmp_ge eX12_count_115 (fun h115 => ?_) (fun h115 => ?_)
      · rw [fa_le, ea] at h115
        refine g_iconst (v := (-1)) (by decide) eX12_count_130 ?_
        refine g_iret rfl eX12_count_131 ⟨_, rfl, ?_⟩
        try dsimp only
        refine ⟨rfl, ?_⟩
        unfold cntM
        rw [if_neg h1, if_neg (by omega)]
        rfl
      · rw [fa_le, ea] at h115
        have es : (x - 20).toInt = ((x.toInt - 20).toNat : Int) := by rw [fb_subI] <;> rw [e20] <;> omega
        refine g_ald0 eX12_count_118 ?_
        refine g_getR (ci := 11) (j := 22) rfl (Nat.le_of_ble_eq_true rfl) (Nat.le_of_ble_eq_true rfl) (Nat.le_of_ble_eq_true rfl) rfl rfl fl_X12_40 eX12_count_119 ?_
        refine g_ild1 eX12_count_122 ?_
        refine g_bipush (v := 20) (by decide) eX12_count_123 ?_
        refine g_isub eX12_count_125 ?_
        refine g_iald rfl (Nat.le_of_ble_eq_true rfl) (vin (by rw [es]; omega) (by rw [es]; show _ < ((5 : Nat) : Int); omega)) eX12_count_126 ?_
        refine g_goto eX12_count_127 ?_
        refine g_iret rfl eX12_count_131 ⟨_, rfl, ?_⟩
        try dsimp only
        refine ⟨rfl, ?_⟩
        unfold cntM
        rw [if_neg h1, if_pos (by omega), clamp es]
  refine g_ild1 eX12_count_74 ?_
  refine g_bipush (v := 10) (by decide) eX12_count_75 ?_
  refine g_icmp_lt eX12_count_77 (fun h77 => ?_) (fun h77 => ?_)
  · rw [fa_lt, e10] at h77
    exact two (by omega)
  · rw [fa_lt, e10] at h77
    have ea : ((10 : Int32) + nI np).toInt = 10 + np := by rw [fb_addI] <;> rw [e10, nI_toInt (by omega)] <;> omega
    refine g_ild1 eX12_count_80 ?_
    refine g_bipush (v := 10) (by decide) eX12_count_81 ?_
    refine g_ald0 eX12_count_83 ?_
    refine g_getI (ci := 11) (j := 19) rfl (Nat.le_of_ble_eq_true rfl) (Nat.le_of_ble_eq_true rfl) (Nat.le_of_ble_eq_true rfl) rfl fl_X12_241 eX12_count_84 ?_
    rw [hn]
    refine g_iadd eX12_count_87 ?_
    refine g_icmp_ge eX12_count_88 (fun h88 => ?_) (fun h88 => ?_)
    · rw [fa_le, ea] at h88
      exact two (by omega)
    · rw [fa_le, ea] at h88
      have es : (x - 10).toInt = ((x.toInt - 10).toNat : Int) := by rw [fb_subI] <;> rw [e10] <;> omega
      refine g_ald0 eX12_count_91 ?_
      refine g_getR (ci := 11) (j := 21) rfl (Nat.le_of_ble_eq_true rfl) (Nat.le_of_ble_eq_true rfl) (Nat.le_of_ble_eq_true rfl) rfl rfl fl_X12_37 eX12_count_92 ?_
      refine g_ild1 eX12_count_95 ?_
      refine g_bipush (v := 10) (by decide) eX12_count_96 ?_
      refine g_isub eX12_count_98 ?_
      refine g_iald rfl (Nat.le_of_ble_eq_true rfl) (vin (by rw [es]; omega) (by rw [es]; show _ < ((5 : Nat) : Int); omega)) eX12_count_99 ?_
      refine g_iret rfl eX12_count_100 ⟨_, rfl, ?_⟩
      try dsimp only
      refine ⟨rfl, ?_⟩
      unfold cntM
      rw [if_pos (by omega), clamp es]
end MODO
