/-! feed on both sides -/
section FEED
variable {l : Launch} {D : va_G} {cy : Nat → ClassId}
/-- behind five ints more on a tape -/
def fdS (st : St) (ib io jo n : Nat) (a b c d e : Int32) : St := apS (apS (apS (apS (apS st ib io jo n (bytI a) 4) ib io jo (n + 4) (bytI b) 4) ib io jo (n + 8) (bytI c) 4) ib io jo (n + 12) (bytI d) 4) ib io jo (n + 16) (bytI e) 4
theorem ap_len (st : St) (ib io jo n : Nat) (b : Nat → Int32) (k : Nat) : (apS st ib io jo n b k).1 io jo = nI (n + k) := by unfold apS; rw [sI_1, if_pos ⟨rfl, rfl⟩]
theorem m_feed (st : St) (n : Nat) (hn : st.1 1 1 = nI n) (h : n ≤ 2000) (a b c d e : Int32) : Mi l D cy 1 YX11_feed [.ref 0, .int a, .int b, .int c, .int d, .int e] st (fun r u => if n + 20 ≤ 2000 then r = nI (n + 20) ∧ u = fdS st 2 1 1 n a b c d e else r = -1 ∧ u = st) := by
  have hl : (st.1 1 1).toInt = n := by rw [hn, nI_toInt (by omega)]
  refine M.ofG [some (.ref 0), some (.int a), some (.int b), some (.int c), some (.int d), some (.int e)] (by decide) (Nat.le_of_ble_eq_true rfl) rfl ?_
  intro xp xe xs xm xa xb xme xc xad xA
  refine g_ald0 eX11_feed_0 ?_
  refine g_getR (ci := 10) (j := 1) rfl (Nat.le_of_ble_eq_true rfl) (Nat.le_of_ble_eq_true rfl) (Nat.le_of_ble_eq_true rfl) rfl rfl fl_X11_10 eX11_feed_1 ?_
  refine g_callVi (ci := 8) (m_room5 st (by omega)) rfl (Nat.le_of_ble_eq_true rfl) (Nat.le_of_ble_eq_true rfl) rfl cv_X11_93 eX11_feed_4 ⟨Nat.le_of_ble_eq_true rfl, Nat.le_of_ble_eq_true rfl⟩ rfl rfl (Nat.le_of_ble_eq_true rfl) (fun r st hr => ?_)
  obtain ⟨rfl, rfl⟩ := hr
  rw [hl]
  refine g_if_ne eX11_feed_7 (fun hb => ?_) (fun hb => ?_)
  · rw [b2_ne0] at hb
    have hC : n + 20 ≤ 2000 := by omega
    refine g_ald0 eX11_feed_12 ?_
    refine g_getR (ci := 10) (j := 1) rfl (Nat.le_of_ble_eq_true rfl) (Nat.le_of_ble_eq_true rfl) (Nat.le_of_ble_eq_true rfl) rfl rfl fl_X11_10 eX11_feed_13 ?_
    refine g_ild1 eX11_feed_16 ?_
    refine g_callVv (ci := 8) (m_append _ a n hn (by omega)) rfl (Nat.le_of_ble_eq_true rfl) (Nat.le_of_ble_eq_true rfl) rfl cv_X11_97 eX11_feed_17 ⟨Nat.le_of_ble_eq_true rfl, Nat.le_of_ble_eq_true rfl⟩ rfl rfl (Nat.le_of_ble_eq_true rfl) (fun u hu => ?_)
    subst hu
    refine g_ald0 eX11_feed_20 ?_
    refine g_getR (ci := 10) (j := 1) rfl (Nat.le_of_ble_eq_true rfl) (Nat.le_of_ble_eq_true rfl) (Nat.le_of_ble_eq_true rfl) rfl rfl fl_X11_10 eX11_feed_21 ?_
    refine g_ild2 eX11_feed_24 ?_
    refine g_callVv (ci := 8) (m_append _ b (n + 4) (ap_len _ _ _ _ _ _ _) (by omega)) rfl (Nat.le_of_ble_eq_true rfl) (Nat.le_of_ble_eq_true rfl) rfl cv_X11_97 eX11_feed_25 ⟨Nat.le_of_ble_eq_true rfl, Nat.le_of_ble_eq_true rfl⟩ rfl rfl (Nat.le_of_ble_eq_true rfl) (fun u hu => ?_)
    subst hu
    refine g_ald0 eX11_feed_28 ?_
    refine g_getR (ci := 10) (j := 1) rfl (Nat.le_of_ble_eq_true rfl) (Nat.le_of_ble_eq_true rfl) (Nat.le_of_ble_eq_true rfl) rfl rfl fl_X11_10 eX11_feed_29 ?_
    refine g_ild3 eX11_feed_32 ?_
    refine g_callVv (ci := 8) (m_append _ c (n + 8) (ap_len _ _ _ _ _ _ _) (by omega)) rfl (Nat.le_of_ble_eq_true rfl) (Nat.le_of_ble_eq_true rfl) rfl cv_X11_97 eX11_feed_33 ⟨Nat.le_of_ble_eq_true rfl, Nat.le_of_ble_eq_true rfl⟩ rfl rfl (Nat.le_of_ble_eq_true rfl) (fun u hu => ?_)
    subst hu
    refine g_ald0 eX11_feed_36 ?_
    refine g_getR (ci := 10) (j := 1) rfl (Nat.le_of_ble_eq_true rfl) (Nat.le_of_ble_eq_true rfl) (Nat.le_of_ble_eq_true rfl) rfl rfl fl_X11_10 eX11_feed_37 ?_
    refine g_ild4 eX11_feed_40 ?_
    refine g_callVv (ci := 8) (m_append _ d (n + 12) (ap_len _ _ _ _ _ _ _) (by omega)) rfl (Nat.le_of_ble_eq_true rfl) (Nat.le_of_ble_eq_true rfl) rfl cv_X11_97 eX11_feed_42 ⟨Nat.le_of_ble_eq_true rfl, Nat.le_of_ble_eq_true rfl⟩ rfl rfl (Nat.le_of_ble_eq_true rfl) (fun u hu => ?_)
    subst hu
    refine g_ald0 eX11_feed_45 ?_
    refine g_getR (ci := 10) (j := 1) rfl (Nat.le_of_ble_eq_true rfl) (Nat.le_of_ble_eq_true rfl) (Nat.le_of_ble_eq_true rfl) rfl rfl fl_X11_10 eX11_feed_46 ?_
    refine g_ild5 eX11_feed_49 ?_
    refine g_callVv (ci := 8) (m_append _ e (n + 16) (ap_len _ _ _ _ _ _ _) (by omega)) rfl (Nat.le_of_ble_eq_true rfl) (Nat.le_of_ble_eq_true rfl) rfl cv_X11_97 eX11_feed_51 ⟨Nat.le_of_ble_eq_true rfl, Nat.le_of_ble_eq_true rfl⟩ rfl rfl (Nat.le_of_ble_eq_true rfl) (fun u hu => ?_)
    subst hu
    refine g_ald0 eX11_feed_54 ?_
    refine g_getR (ci := 10) (j := 1) rfl (Nat.le_of_ble_eq_true rfl) (Nat.le_of_ble_eq_true rfl) (Nat.le_of_ble_eq_true rfl) rfl rfl fl_X11_10 eX11_feed_55 ?_
    refine g_getI (ci := 8) (j := 1) rfl (Nat.le_of_ble_eq_true rfl) (Nat.le_of_ble_eq_true rfl) (Nat.le_of_ble_eq_true rfl) rfl fl_X11_100 eX11_feed_58 ?_
    refine g_iret rfl eX11_feed_61 ⟨_, rfl, ?_⟩
    try dsimp only
    rw [if_pos hC]
    exact ⟨ap_len _ _ _ _ _ _ _, rfl⟩
  · rw [b2_eq0] at hb
    refine g_iconst (v := (-1)) (by decide) eX11_feed_10 ?_
    refine g_iret rfl eX11_feed_11 ⟨_, rfl, ?_⟩
    try dsimp only
    rw [if_neg (by omega)]
    exact ⟨rfl, rfl⟩
theorem w_put (st : St) (w : Int32) (n : Nat) (hn : st.1 31 1 = nI n) (h : n + 4 ≤ 2000) : Mv l D cy 0 YX12_put [.ref 31, .int w] st (fun u => u = apS st 32 31 1 n (bytI w) 4) := by
  refine M.ofG [some (.ref 31), some (.int w), none] (by decide) (Nat.le_of_ble_eq_true rfl) rfl ?_
  intro xp xe xs xm xa xb xme xc xad xA
  have step : ∀ k : Nat, k < 4 → G xp l xe (rmd (0)) xs xm xa xb xme xc D cy xad xA (YX12_put.2.1, YX12_put.1.cls, YX12_put.2.2.1, YX12_put.2.2.2) (Pv (fun (u : St) => u = apS st 32 31 1 n (bytI w) 4)) 3 ([some (.ref 31), some (.int w), some (.int (nI (24 - 8 * k) + Int32.ofInt (-8)))]) ([]) (apS st 32 31 1 n (bytI w) (k + 1)) → G xp l xe (rmd (0)) xs xm xa xb xme xc D cy xad xA (YX12_put.2.1, YX12_put.1.cls, YX12_put.2.2.1, YX12_put.2.2.2) (Pv (fun (u : St) => u = apS st 32 31 1 n (bytI w) 4)) 3 ([some (.ref 31), some (.int w), some (.int (nI (24 - 8 * k)))]) ([]) (apS st 32 31 1 n (bytI w) k) := by
    intro k hk hk2
    have e1 := ap_len st 32 31 1 n (bytI w) k
    refine g_ild2 eX12_put_3 ?_
    refine g_if_lt eX12_put_4 (fun hb => ?_) (fun hb => ?_)
    · exact absurd hb (nI_pos (by omega))
    · refine g_ald0 eX12_put_7 ?_
      refine g_getR (ci := 11) (j := 0) rfl (Nat.le_of_ble_eq_true rfl) (Nat.le_of_ble_eq_true rfl) (Nat.le_of_ble_eq_true rfl) rfl rfl fl_X12_7 eX12_put_8 ?_
      refine g_ald0 eX12_put_11 ?_
      refine g_getI (ci := 11) (j := 1) rfl (Nat.le_of_ble_eq_true rfl) (Nat.le_of_ble_eq_true rfl) (Nat.le_of_ble_eq_true rfl) rfl fl_X12_180 eX12_put_12 ?_
      refine g_ild1 eX12_put_15 ?_
      refine g_ild2 eX12_put_16 ?_
      refine g_ishr eX12_put_17 ?_
      refine g_i2b eX12_put_18 ?_
      refine g_bast rfl (Nat.le_of_ble_eq_true rfl) (by rw [e1]; exact vp_in_nI (n := n + k) (N := 2000) (by omega) (by decide)) eX12_put_19 ?_
      refine g_ald0 eX12_put_20 ?_
      refine g_dup rfl eX12_put_21 ?_
      refine g_getI (ci := 11) (j := 1) rfl (Nat.le_of_ble_eq_true rfl) (Nat.le_of_ble_eq_true rfl) (Nat.le_of_ble_eq_true rfl) rfl fl_X12_180 eX12_put_22 ?_
      refine g_iconst (v := 1) (by decide) eX12_put_25 ?_
      refine g_iadd eX12_put_26 ?_
      refine g_putI (ci := 11) (j := 1) rfl rfl (Nat.le_of_ble_eq_true rfl) (Nat.le_of_ble_eq_true rfl) (Nat.le_of_ble_eq_true rfl) rfl fl_X12_180 eX12_put_27 ?_
      have e2 := ap_step st (ib := 32) (io := 31) (jo := 1) (len := n) (n := k) (bytI w) (by decide) ((sI (apS st 32 31 1 n (bytI w) k) 32 ((apS st 32 31 1 n (bytI w) k).1 31 1).toNatClampNeg (w >>> (nI (24 - 8 * k) &&& 31)).toInt8.toInt32.toInt8.toInt32).1 31 1 + 1) (by rw [sI_1, if_neg (fun q => absurd q.1 (by decide)), e1]; exact nI_1 (n + k)) ((apS st 32 31 1 n (bytI w) k).1 31 1).toNatClampNeg (by rw [e1, nI_clamp (by omega)]) ((w >>> (nI (24 - 8 * k) &&& 31)).toInt8.toInt32.toInt8.toInt32) (fb_byte_twice _)
      rw [e2]
      refine g_inc2 rfl (Nat.le_of_ble_eq_true rfl) rfl eX12_put_30 ?_
      refine g_goto eX12_put_33 ?_
      exact hk2
  refine g_bipush (v := 24) (by decide) eX12_put_0 ?_
  refine g_ist2 rfl (Nat.le_of_ble_eq_true rfl) eX12_put_2 ?_
  have e0 : st = apS st 32 31 1 n (bytI w) 0 := by
    unfold apS
    rw [wrB_0, sR_same]
    show st = sI st 31 1 (nI n)
    rw [← hn, sI_same]
  have go := step 0 (by decide) (step 1 (by decide) (step 2 (by decide) (step 3 (by decide) ?_)))
  · rw [← e0] at go
    exact go
  refine g_ild2 eX12_put_3 ?_
  refine g_if_lt eX12_put_4 (fun hb => ?_) (fun hb => ?_)
  · exact g_vret rfl eX12_put_36 ⟨rfl, rfl⟩
  · exact absurd hb (by decide)
theorem w_feed (st s1 : St) (hT : sI st 31 18 0 = s1) (n : Nat) (hn : s1.1 31 1 = nI n) (h : n ≤ 2000) (a b c d e : Int32) : Mi l D cy 1 YX12_feed [.ref 31, .int a, .int b, .int c, .int d, .int e] st (fun r u => if n + 20 ≤ 2000 then r = nI (n + 20) ∧ u = fdS s1 32 31 1 n a b c d e else r = -1 ∧ u = s1) := by
  have e20 : (2000 : Int32).toInt = 2000 := rfl
  refine M.ofG [some (.ref 31), some (.int a), some (.int b), some (.int c), some (.int d), some (.int e)] (by decide) (Nat.le_of_ble_eq_true rfl) rfl ?_
  intro xp xe xs xm xa xb xme xc xad xA
  refine g_ald0 eX12_feed_0 ?_
  refine g_iconst (v := 0) (by decide) eX12_feed_1 ?_
  refine g_putI (ci := 11) (j := 18) rfl rfl (Nat.le_of_ble_eq_true rfl) (Nat.le_of_ble_eq_true rfl) (Nat.le_of_ble_eq_true rfl) rfl fl_X12_177 eX12_feed_2 ?_
  rw [hT]
  refine g_ald0 eX12_feed_5 ?_
  refine g_getI (ci := 11) (j := 1) rfl (Nat.le_of_ble_eq_true rfl) (Nat.le_of_ble_eq_true rfl) (Nat.le_of_ble_eq_true rfl) rfl fl_X12_180 eX12_feed_6 ?_
  rw [hn]
  refine g_bipush (v := 20) (by decide) eX12_feed_9 ?_
  refine g_iadd eX12_feed_11 ?_
  refine g_sipush (v := 2000) (by decide) eX12_feed_12 ?_
  rw [show nI n + 20 = nI (n + 20) from nI_add n 20]
  refine g_icmp_le eX12_feed_15 (fun hb => ?_) (fun hb => ?_)
  · rw [fa_le, nI_toInt (by omega), e20] at hb
    have hC : n + 20 ≤ 2000 := by omega
    refine g_ald0 eX12_feed_20 ?_
    refine g_ild1 eX12_feed_21 ?_
    refine g_callVv (ci := 11) (w_put _ a n hn (by omega)) rfl (Nat.le_of_ble_eq_true rfl) (Nat.le_of_ble_eq_true rfl) rfl cv_X12_183 eX12_feed_22 ⟨Nat.le_of_ble_eq_true rfl, Nat.le_of_ble_eq_true rfl⟩ rfl rfl (Nat.le_of_ble_eq_true rfl) (fun u hu => ?_)
    subst hu
    refine g_ald0 eX12_feed_25 ?_
    refine g_ild2 eX12_feed_26 ?_
    refine g_callVv (ci := 11) (w_put _ b (n + 4) (ap_len _ _ _ _ _ _ _) (by omega)) rfl (Nat.le_of_ble_eq_true rfl) (Nat.le_of_ble_eq_true rfl) rfl cv_X12_183 eX12_feed_27 ⟨Nat.le_of_ble_eq_true rfl, Nat.le_of_ble_eq_true rfl⟩ rfl rfl (Nat.le_of_ble_eq_true rfl) (fun u hu => ?_)
    subst hu
    refine g_ald0 eX12_feed_30 ?_
    refine g_ild3 eX12_feed_31 ?_
    refine g_callVv (ci := 11) (w_put _ c (n + 8) (ap_len _ _ _ _ _ _ _) (by omega)) rfl (Nat.le_of_ble_eq_true rfl) (Nat.le_of_ble_eq_true rfl) rfl cv_X12_183 eX12_feed_32 ⟨Nat.le_of_ble_eq_true rfl, Nat.le_of_ble_eq_true rfl⟩ rfl rfl (Nat.le_of_ble_eq_true rfl) (fun u hu => ?_)
    subst hu
    refine g_ald0 eX12_feed_35 ?_
    refine g_ild4 eX12_feed_36 ?_
    refine g_callVv (ci := 11) (w_put _ d (n + 12) (ap_len _ _ _ _ _ _ _) (by omega)) rfl (Nat.le_of_ble_eq_true rfl) (Nat.le_of_ble_eq_true rfl) rfl cv_X12_183 eX12_feed_38 ⟨Nat.le_of_ble_eq_true rfl, Nat.le_of_ble_eq_true rfl⟩ rfl rfl (Nat.le_of_ble_eq_true rfl) (fun u hu => ?_)
    subst hu
    refine g_ald0 eX12_feed_41 ?_
    refine g_ild5 eX12_feed_42 ?_
    refine g_callVv (ci := 11) (w_put _ e (n + 16) (ap_len _ _ _ _ _ _ _) (by omega)) rfl (Nat.le_of_ble_eq_true rfl) (Nat.le_of_ble_eq_true rfl) rfl cv_X12_183 eX12_feed_44 ⟨Nat.le_of_ble_eq_true rfl, Nat.le_of_ble_eq_true rfl⟩ rfl rfl (Nat.le_of_ble_eq_true rfl) (fun u hu => ?_)
    subst hu
    refine g_ald0 eX12_feed_47 ?_
    refine g_getI (ci := 11) (j := 1) rfl (Nat.le_of_ble_eq_true rfl) (Nat.le_of_ble_eq_true rfl) (Nat.le_of_ble_eq_true rfl) rfl fl_X12_180 eX12_feed_48 ?_
    refine g_iret rfl eX12_feed_51 ⟨_, rfl, ?_⟩
    try dsimp only
    rw [if_pos hC]
    exact ⟨ap_len _ _ _ _ _ _ _, rfl⟩
  · rw [fa_le, nI_toInt (by omega), e20] at hb
    refine g_iconst (v := (-1)) (by decide) eX12_feed_18 ?_
    refine g_iret rfl eX12_feed_19 ⟨_, rfl, ?_⟩
    try dsimp only
    rw [if_neg (by omega)]
    exact ⟨rfl, rfl⟩
end FEED
