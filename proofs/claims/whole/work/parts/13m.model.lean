/-! SealedSumsModel: differ -/
section MODN
variable {l : Launch} {D : va_G} {cy : Nat → ClassId}
def dS (st : St) (f g h : Nat → Int32) : St := oS (sR st 77 h) f g
theorem dS_row (st : St) (f g h : Nat → Int32) {k : Nat} (h1 : k ≠ 75) (h2 : k ≠ 76) (h3 : k ≠ 77) : (dS st f g h).1 k = st.1 k := by unfold dS; rw [oS_row _ _ _ h1 h2, sR_ne h3]
theorem dS_h (st : St) (f g h : Nat → Int32) : (dS st f g h).1 77 = h := by unfold dS; rw [oS_row _ _ _ (by decide) (by decide), sR_at]
theorem dS_ph (st : St) (f g h : Nat → Int32) (j : Nat) (x : Int32) : sI (dS st f g h) 77 j x = dS st f g (upd h j x) := by
  rw [sI_row_eq, dS_h]
  unfold dS oS
  rw [sR_comm _ (show 76 ≠ 77 by decide), sR_comm _ (show 75 ≠ 77 by decide), sR_sR]
theorem dS_oS (st : St) (f g h f2 g2 : Nat → Int32) : oS (dS st f g h) f2 g2 = dS st f2 g2 h := oS_oS _ _ _ _ _
theorem dS_same (st : St) : dS st (st.1 75) (st.1 76) (st.1 77) = st := by
  unfold dS
  rw [sR_same, oS_same]
theorem mPg_dS {t : Int} {st : St} {q : Nat} {K A B U : Nat → Int} {W I O : Nat} (h : mPg t st q K A B U W I O) (f g h9 : Nat → Int32) : mPg t (dS st f g h9) q K A B U W I O := by
  unfold mPg
  rw [dS_row st f g h9 (k := 42) (by decide) (by decide) (by decide), dS_row st f g h9 (k := 39) (by decide) (by decide) (by decide), dS_row st f g h9 (k := 40) (by decide) (by decide) (by decide), dS_row st f g h9 (k := 41) (by decide) (by decide) (by decide), dS_row st f g h9 (k := 43) (by decide) (by decide) (by decide), dS_row st f g h9 (k := 44) (by decide) (by decide) (by decide), dS_row st f g h9 (k := 45) (by decide) (by decide) (by decide)]
  exact h
theorem slP_dS (st : St) (f g h h2 : Nat → Int32) (j : Nat) : slP (dS st f g h) j = slP (dS st f g h2) j := by unfold slP dS; rw [oS_f, oS_f, oS_g, oS_g]
def difM (t : Int) (K A B U : Nat → Nat → Int) (W : Nat → Nat) (O q r : Nat) : Nat → Bool := fun v => !decide (∀ k, k < O → plO (K r) (A r) (B r) (W r) t v (U r k) = plO (K q) (A q) (B q) (W q) t v (U q k))
set_option maxHeartbeats 4000000 in
theorem w_differ (st s1 : St) (hT : sI st 31 18 0 = s1) (ht : tOK (s1.1 31 17)) (np : Nat) (hn : s1.1 31 19 = nI np) (h4 : np ≤ 4) {K A B U : Nat → Nat → Int} {W I O : Nat → Nat} (hp : ∀ q, q < np → mPg (s1.1 31 17).toInt s1 q (K q) (A q) (B q) (U q) (W q) (I q) (O q)) (x y : Int32) : Mi l D cy 4 YX12_differ [.ref 31, .int x, .int y] st (fun z u => if isS np x ∧ isS np y ∧ I (qI x) = I (qI y) ∧ I (qI x) ≤ 4 ∧ O (qI x) = O (qI y) then (∃ f g h, u = dS s1 f g h) ∧ z.toInt = (fb_ct (difM (s1.1 31 17).toInt K A B U W (O (qI x)) (qI x) (qI y)) ((s1.1 31 17).toInt ^ I (qI x)).toNat : Int) else z = -1 ∧ u = s1) := by
  have hcn : (s1.1 31 19).toInt = np := by rw [hn, nI_toInt (by omega)]
  have e4 : (4 : Int32).toInt = 4 := rfl
  refine M.ofG [some (.ref 31), some (.int x), some (.int y), none, none, none, none] (by decide) (Nat.le_of_ble_eq_true rfl) rfl ?_
  intro xp xe xs xm xa xb xme xc xad xA
  have bad : ¬ (isS np x ∧ isS np y ∧ I (qI x) = I (qI y) ∧ I (qI x) ≤ 4 ∧ O (qI x) = O (qI y)) → G xp l xe (rmd (4)) xs xm xa xb xme xc D cy xad xA (YX12_differ.2.1, YX12_differ.1.cls, YX12_differ.2.2.1, YX12_differ.2.2.2) (Pi (fun (z : Int32) (u : St) => if isS np x ∧ isS np y ∧ I (qI x) = I (qI y) ∧ I (qI x) ≤ 4 ∧ O (qI x) = O (qI y) then (∃ f g h, u = dS s1 f g h) ∧ z.toInt = (fb_ct (difM (s1.1 31 17).toInt K A B U W (O (qI x)) (qI x) (qI y)) ((s1.1 31 17).toInt ^ I (qI x)).toNat : Int) else z = -1 ∧ u = s1)) 61 ([some (.ref 31), some (.int x), some (.int y), none, none, none, none]) ([]) (s1) := by
    intro hb
    refine g_iconst (v := (-1)) (by decide) eX12_differ_61 ?_
    refine g_iret rfl eX12_differ_62 ⟨_, rfl, ?_⟩
    try dsimp only
    rw [if_neg hb]
    exact ⟨rfl, rfl⟩
  refine g_ald0 eX12_differ_0 ?_
  refine g_iconst (v := 0) (by decide) eX12_differ_1 ?_
  refine g_putI (ci := 11) (j := 18) rfl rfl (Nat.le_of_ble_eq_true rfl) (Nat.le_of_ble_eq_true rfl) (Nat.le_of_ble_eq_true rfl) rfl fl_X12_177 eX12_differ_2 ?_
  rw [hT]
  refine g_ald0 eX12_differ_5 ?_
  refine g_ild1 eX12_differ_6 ?_
  refine g_callVi (ci := 11) (w_isProgram _ x) rfl (Nat.le_of_ble_eq_true rfl) (Nat.le_of_ble_eq_true rfl) rfl cv_X12_461 eX12_differ_7 ⟨Nat.le_of_ble_eq_true rfl, Nat.le_of_ble_eq_true rfl⟩ rfl rfl (Nat.le_of_ble_eq_true rfl) (fun r s1 h => ?_)
  obtain ⟨rfl, rfl⟩ := h
  refine g_if_eq eX12_differ_10 (fun hb => ?_) (fun hb => ?_)
  · rw [b2_eq0, hcn] at hb
    exact bad (fun h => hb h.1)
  · rw [b2_ne0, hcn] at hb
    refine g_ald0 eX12_differ_13 ?_
    refine g_ild2 eX12_differ_14 ?_
    refine g_callVi (ci := 11) (w_isProgram _ y) rfl (Nat.le_of_ble_eq_true rfl) (Nat.le_of_ble_eq_true rfl) rfl cv_X12_461 eX12_differ_15 ⟨Nat.le_of_ble_eq_true rfl, Nat.le_of_ble_eq_true rfl⟩ rfl rfl (Nat.le_of_ble_eq_true rfl) (fun r s1 h => ?_)
    obtain ⟨rfl, rfl⟩ := h
    refine g_if_eq eX12_differ_18 (fun hb2 => ?_) (fun hb2 => ?_)
    · rw [b2_eq0, hcn] at hb2
      exact bad (fun h => hb2 h.2.1)
    · rw [b2_ne0, hcn] at hb2
      obtain ⟨q, hq, rfl⟩ := as_nI hb
      obtain ⟨r, hr, rfl⟩ := as_nI hb2
      have e : qI (nI q) = q := nI_clamp (by omega)
      have er : qI (nI r) = r := nI_clamp (by omega)
      have hc : (nI q).toNatClampNeg = q := e
      have hcr : (nI r).toNatClampNeg = r := er
      obtain ⟨p1, p2, p3, p4, p5, p6, p7, p8, p9, p10⟩ := hp q hq
      obtain ⟨r1, r2, r3, r4, r5, r6, r7, r8, r9, r10⟩ := hp r hr
      refine g_ald0 eX12_differ_21 ?_
      refine g_getR (ci := 11) (j := 21) rfl (Nat.le_of_ble_eq_true rfl) (Nat.le_of_ble_eq_true rfl) (Nat.le_of_ble_eq_true rfl) rfl rfl fl_X12_37 eX12_differ_22 ?_
      refine g_ild1 eX12_differ_25 ?_
      refine g_iald rfl (Nat.le_of_ble_eq_true rfl) (vp_in_nI (n := q) (N := 5) (by omega) (by decide)) eX12_differ_26 ?_
      refine g_ald0 eX12_differ_27 ?_
      refine g_getR (ci := 11) (j := 21) rfl (Nat.le_of_ble_eq_true rfl) (Nat.le_of_ble_eq_true rfl) (Nat.le_of_ble_eq_true rfl) rfl rfl fl_X12_37 eX12_differ_28 ?_
      refine g_ild2 eX12_differ_31 ?_
      refine g_iald rfl (Nat.le_of_ble_eq_true rfl) (vp_in_nI (n := r) (N := 5) (by omega) (by decide)) eX12_differ_32 ?_
      rw [hc, hcr, p2, r2]
      refine g_icmp_ne eX12_differ_33 (fun h33 => ?_) (fun h33 => ?_)
      · rw [fa_eq, nI_toInt (by omega), nI_toInt (by omega)] at h33
        exact bad (fun h => h33 (by have h9 := h.2.2.1; rw [e, er] at h9; omega))
      · rw [fa_eq, nI_toInt (by omega), nI_toInt (by omega)] at h33
        refine g_ald0 eX12_differ_36 ?_
        refine g_getR (ci := 11) (j := 21) rfl (Nat.le_of_ble_eq_true rfl) (Nat.le_of_ble_eq_true rfl) (Nat.le_of_ble_eq_true rfl) rfl rfl fl_X12_37 eX12_differ_37 ?_
        refine g_ild1 eX12_differ_40 ?_
        refine g_iald rfl (Nat.le_of_ble_eq_true rfl) (vp_in_nI (n := q) (N := 5) (by omega) (by decide)) eX12_differ_41 ?_
        refine g_iconst (v := 4) (by decide) eX12_differ_42 ?_
        rw [hc, p2]
        refine g_icmp_gt eX12_differ_43 (fun h43 => ?_) (fun h43 => ?_)
        · rw [fa_lt, nI_toInt (by omega), e4] at h43
          exact bad (fun h => by have h9 := h.2.2.2.1; rw [e] at h9; omega)
        · rw [fa_lt, nI_toInt (by omega), e4] at h43
          refine g_ald0 eX12_differ_46 ?_
          refine g_getR (ci := 11) (j := 22) rfl (Nat.le_of_ble_eq_true rfl) (Nat.le_of_ble_eq_true rfl) (Nat.le_of_ble_eq_true rfl) rfl rfl fl_X12_40 eX12_differ_47 ?_
          refine g_ild1 eX12_differ_50 ?_
          refine g_iald rfl (Nat.le_of_ble_eq_true rfl) (vp_in_nI (n := q) (N := 5) (by omega) (by decide)) eX12_differ_51 ?_
          refine g_ald0 eX12_differ_52 ?_
          refine g_getR (ci := 11) (j := 22) rfl (Nat.le_of_ble_eq_true rfl) (Nat.le_of_ble_eq_true rfl) (Nat.le_of_ble_eq_true rfl) rfl rfl fl_X12_40 eX12_differ_53 ?_
          refine g_ild2 eX12_differ_56 ?_
          refine g_iald rfl (Nat.le_of_ble_eq_true rfl) (vp_in_nI (n := r) (N := 5) (by omega) (by decide)) eX12_differ_57 ?_
          rw [hc, hcr, p3, r3]
          refine g_icmp_eq eX12_differ_58 (fun h58 => ?_) (fun h58 => ?_)
          · rw [fa_eq, nI_toInt (by omega), nI_toInt (by omega)] at h58
            have hIq : I q = I r := by omega
            have hOq : O q = O r := by omega
            have hC : isS np (nI q) ∧ isS np (nI r) ∧ I (qI (nI q)) = I (qI (nI r)) ∧ I (qI (nI q)) ≤ 4 ∧ O (qI (nI q)) = O (qI (nI r)) := by
              rw [e, er]
              exact ⟨hb, hb2, hIq, by omega, hOq⟩
            generalize htt : (s1.1 31 17).toInt = t at *
            have ht2 : 2 ≤ t ∧ t ≤ 13 := by rw [← htt]; exact ht
            have hpw := pow_le6 (t := t) ht2 (k := I q) p5
            have tOKd : ∀ f g h, tOK ((dS s1 f g h).1 31 17) := fun f g h => by
              rw [dS_row s1 f g h (by decide) (by decide) (by decide)]
              show 2 ≤ (s1.1 31 17).toInt ∧ (s1.1 31 17).toInt ≤ 13
              rw [htt]; exact ht2
            have ted : ∀ f g h, t = ((dS s1 f g h).1 31 17).toInt := fun f g h => by
              rw [dS_row s1 f g h (by decide) (by decide) (by decide), htt]
            have loop : ∀ (f9 v : Nat) (f g h : Nat → Int32) (a : Int32) (y5 y6 : Option Value), v + f9 = (t ^ I q).toNat → a.toInt = (fb_ct (difM t K A B U W (O q) q r) v : Int) → G xp l xe (rmd (4)) xs xm xa xb xme xc D cy xad xA (YX12_differ.2.1, YX12_differ.1.cls, YX12_differ.2.2.1, YX12_differ.2.2.2) (Pi (fun (z : Int32) (u : St) => if isS np (nI q) ∧ isS np (nI r) ∧ I (qI (nI q)) = I (qI (nI r)) ∧ I (qI (nI q)) ≤ 4 ∧ O (qI (nI q)) = O (qI (nI r)) then (∃ f g h, u = dS s1 f g h) ∧ z.toInt = (fb_ct (difM t K A B U W (O (qI (nI q))) (qI (nI q)) (qI (nI r))) (t ^ I (qI (nI q))).toNat : Int) else z = -1 ∧ u = s1)) 68 ([some (.ref 31), some (.int (nI q)), some (.int (nI r)), some (.int a), some (.int (nI v)), y5, y6]) ([]) (dS s1 f g h) := by
              intro f9
              induction f9 with
              | zero =>
                intro v f g h a y5 y6 hv ha
                refine g_ild4 eX12_differ_68 ?_
                refine g_ald0 eX12_differ_70 ?_
                refine g_ild1 eX12_differ_71 ?_
                refine g_callVi (ci := 11) (w_allOf (dS s1 f g h) q (by omega) (I q) (mPg_dS (hp q hq) f g h).2.1 p5 (tOKd f g h)) rfl (Nat.le_of_ble_eq_true rfl) (Nat.le_of_ble_eq_true rfl) rfl cv_X12_483 eX12_differ_72 ⟨Nat.le_of_ble_eq_true rfl, Nat.le_of_ble_eq_true rfl⟩ rfl rfl (Nat.le_of_ble_eq_true rfl) (fun al u2 hh => ?_)
                obtain ⟨rfl, hal⟩ := hh
                rw [← ted] at hal
                refine g_icmp_ge eX12_differ_75 (fun hb9 => ?_) (fun hb9 => ?_)
                · refine g_ild3 eX12_differ_208 ?_
                  refine g_iret rfl eX12_differ_209 ⟨_, rfl, ?_⟩
                  try dsimp only
                  rw [if_pos hC, e, er]
                  refine ⟨⟨f, g, h, rfl⟩, ?_⟩
                  rw [show (t ^ I q).toNat = v by omega]
                  exact ha
                · rw [fa_le, nI_toInt (by omega), hal] at hb9
                  exfalso
                  omega
              | succ f9 ih =>
                intro v f g h a y5 y6 hv ha
                have hct := fb_ct_le (difM t K A B U W (O q) q r) v
                have htv : (nI v).toInt = v := nI_toInt (by omega)
                refine g_ild4 eX12_differ_68 ?_
                refine g_ald0 eX12_differ_70 ?_
                refine g_ild1 eX12_differ_71 ?_
                refine g_callVi (ci := 11) (w_allOf (dS s1 f g h) q (by omega) (I q) (mPg_dS (hp q hq) f g h).2.1 p5 (tOKd f g h)) rfl (Nat.le_of_ble_eq_true rfl) (Nat.le_of_ble_eq_true rfl) rfl cv_X12_483 eX12_differ_72 ⟨Nat.le_of_ble_eq_true rfl, Nat.le_of_ble_eq_true rfl⟩ rfl rfl (Nat.le_of_ble_eq_true rfl) (fun al u2 hh => ?_)
                obtain ⟨rfl, hal⟩ := hh
                rw [← ted] at hal
                refine g_icmp_ge eX12_differ_75 (fun hb9 => ?_) (fun hb9 => ?_)
                · rw [fa_le, nI_toInt (by omega), hal] at hb9
                  exfalso
                  omega
                · refine g_ald0 eX12_differ_78 ?_
                  refine g_ild1 eX12_differ_79 ?_
                  refine g_ild4 eX12_differ_80 ?_
                  refine g_callVv (ci := 11) (w_opens (dS s1 f g h) q (by omega) (ted f g h) (tOKd f g h) (mPg_dS (hp q hq) f g h) (nI v) (by rw [htv]; omega)) rfl (Nat.le_of_ble_eq_true rfl) (Nat.le_of_ble_eq_true rfl) rfl cv_X12_486 eX12_differ_82 ⟨Nat.le_of_ble_eq_true rfl, Nat.le_of_ble_eq_true rfl⟩ rfl rfl (Nat.le_of_ble_eq_true rfl) (fun u2 hh => ?_)
                  obtain ⟨f2, g2, rfl, hs⟩ := hh
                  rw [dS_oS] at hs ⊢
                  rw [htv] at hs
                  generalize h = h0 at hs ⊢
                  have comp : ∀ (h : Nat → Int32), (∀ k, k < O q → (h k).toInt = plO (K q) (A q) (B q) (W q) t v (U q k)) → ∀ y6 : Option Value, G xp l xe (rmd (4)) xs xm xa xb xme xc D cy xad xA (YX12_differ.2.1, YX12_differ.1.cls, YX12_differ.2.2.1, YX12_differ.2.2.2) (Pi (fun (z : Int32) (u : St) => if isS np (nI q) ∧ isS np (nI r) ∧ I (qI (nI q)) = I (qI (nI r)) ∧ I (qI (nI q)) ≤ 4 ∧ O (qI (nI q)) = O (qI (nI r)) then (∃ f g h, u = dS s1 f g h) ∧ z.toInt = (fb_ct (difM t K A B U W (O (qI (nI q))) (qI (nI q)) (qI (nI r))) (t ^ I (qI (nI q))).toNat : Int) else z = -1 ∧ u = s1)) 127 ([some (.ref 31), some (.int (nI q)), some (.int (nI r)), some (.int a), some (.int (nI v)), some (.int (nI (O q))), y6]) ([]) (dS s1 f2 g2 h) := by
                    intro h hh9 y6
                    refine g_ald0 eX12_differ_127 ?_
                    refine g_ild2 eX12_differ_128 ?_
                    refine g_ild4 eX12_differ_129 ?_
                    refine g_callVv (ci := 11) (w_opens (dS s1 f2 g2 h) r (by omega) (ted f2 g2 h) (tOKd f2 g2 h) (mPg_dS (hp r hr) f2 g2 h) (nI v) (by rw [htv]; omega)) rfl (Nat.le_of_ble_eq_true rfl) (Nat.le_of_ble_eq_true rfl) rfl cv_X12_486 eX12_differ_131 ⟨Nat.le_of_ble_eq_true rfl, Nat.le_of_ble_eq_true rfl⟩ rfl rfl (Nat.le_of_ble_eq_true rfl) (fun u2 hh => ?_)
                    obtain ⟨f3, g3, rfl, hs3⟩ := hh
                    rw [dS_oS] at hs3 ⊢
                    rw [htv] at hs3
                    have inner : ∀ (f8 k : Nat) (b : Int32), k + f8 = O q → b = b2 (¬ ∀ j, j < k → plO (K r) (A r) (B r) (W r) t v (U r j) = plO (K q) (A q) (B q) (W q) t v (U q j)) → G xp l xe (rmd (4)) xs xm xa xb xme xc D cy xad xA (YX12_differ.2.1, YX12_differ.1.cls, YX12_differ.2.2.1, YX12_differ.2.2.2) (Pi (fun (z : Int32) (u : St) => if isS np (nI q) ∧ isS np (nI r) ∧ I (qI (nI q)) = I (qI (nI r)) ∧ I (qI (nI q)) ≤ 4 ∧ O (qI (nI q)) = O (qI (nI r)) then (∃ f g h, u = dS s1 f g h) ∧ z.toInt = (fb_ct (difM t K A B U W (O (qI (nI q))) (qI (nI q)) (qI (nI r))) (t ^ I (qI (nI q))).toNat : Int) else z = -1 ∧ u = s1)) 140 ([some (.ref 31), some (.int (nI q)), some (.int (nI r)), some (.int a), some (.int (nI v)), some (.int b), some (.int (nI k))]) ([]) (dS s1 f3 g3 h) := by
                      intro f8
                      induction f8 with
                      | zero =>
                        intro k b hk hb8
                        refine g_ild6 eX12_differ_140 ?_
                        refine g_ald0 eX12_differ_142 ?_
                        refine g_getR (ci := 11) (j := 22) rfl (Nat.le_of_ble_eq_true rfl) (Nat.le_of_ble_eq_true rfl) (Nat.le_of_ble_eq_true rfl) rfl rfl fl_X12_40 eX12_differ_143 ?_
                        refine g_ild1 eX12_differ_146 ?_
                        refine g_iald rfl (Nat.le_of_ble_eq_true rfl) (vp_in_nI (n := q) (N := 5) (by omega) (by decide)) eX12_differ_147 ?_
                        rw [hc, dS_row s1 f3 g3 h (by decide) (by decide) (by decide), p3]
                        refine g_icmp_ge eX12_differ_148 (fun h148 => ?_) (fun h148 => ?_)
                        · refine g_ild5 eX12_differ_194 ?_
                          rw [hb8]
                          refine g_if_eq eX12_differ_196 (fun h196 => ?_) (fun h196 => ?_)
                          · rw [b2_eq0] at h196
                            refine g_inc4 rfl (Nat.le_of_ble_eq_true rfl) rfl eX12_differ_202 ?_
                            refine g_goto eX12_differ_205 ?_
                            rw [inc1]
                            refine ih (v + 1) _ _ _ _ _ _ (by omega) ?_
                            have hd : difM t K A B U W (O q) q r v = false := by
                              unfold difM
                              rw [show O q = k by omega]
                              rw [decide_eq_true (Classical.not_not.mp h196)]
                              rfl
                            rw [fb_ct_succ, hd, ha]
                            simp
                          · rw [b2_ne0] at h196
                            refine g_inc3 rfl (Nat.le_of_ble_eq_true rfl) rfl eX12_differ_199 ?_
                            refine g_inc4 rfl (Nat.le_of_ble_eq_true rfl) rfl eX12_differ_202 ?_
                            refine g_goto eX12_differ_205 ?_
                            rw [inc1]
                            refine ih (v + 1) _ _ _ _ _ _ (by omega) ?_
                            have hd : difM t K A B U W (O q) q r v = true := by
                              unfold difM
                              rw [show O q = k by omega]
                              rw [decide_eq_false h196]
                              rfl
                            have e1 : (Int32.ofInt 1).toInt = 1 := rfl
                            rw [fb_ct_succ, hd, fb_addI] <;> rw [ha, e1] <;> (try simp) <;> omega
                        · exact absurd (nI_le (by omega) (by omega)) h148
                      | succ f8 ih8 =>
                        intro k b hk hb8
                        have hck : (nI k).toNatClampNeg = k := nI_clamp (by omega)
                        refine g_ild6 eX12_differ_140 ?_
                        refine g_ald0 eX12_differ_142 ?_
                        refine g_getR (ci := 11) (j := 22) rfl (Nat.le_of_ble_eq_true rfl) (Nat.le_of_ble_eq_true rfl) (Nat.le_of_ble_eq_true rfl) rfl rfl fl_X12_40 eX12_differ_143 ?_
                        refine g_ild1 eX12_differ_146 ?_
                        refine g_iald rfl (Nat.le_of_ble_eq_true rfl) (vp_in_nI (n := q) (N := 5) (by omega) (by decide)) eX12_differ_147 ?_
                        rw [hc, dS_row s1 f3 g3 h (by decide) (by decide) (by decide), p3]
                        refine g_icmp_ge eX12_differ_148 (fun h148 => ?_) (fun h148 => ?_)
                        · exact absurd h148 (nI_ge (by omega) (by omega))
                        · have next : ∀ b2' : Int32, b2' = b2 (¬ ∀ j, j < k + 1 → plO (K r) (A r) (B r) (W r) t v (U r j) = plO (K q) (A q) (B q) (W q) t v (U q j)) → G xp l xe (rmd (4)) xs xm xa xb xme xc D cy xad xA (YX12_differ.2.1, YX12_differ.1.cls, YX12_differ.2.2.1, YX12_differ.2.2.2) (Pi (fun (z : Int32) (u : St) => if isS np (nI q) ∧ isS np (nI r) ∧ I (qI (nI q)) = I (qI (nI r)) ∧ I (qI (nI q)) ≤ 4 ∧ O (qI (nI q)) = O (qI (nI r)) then (∃ f g h, u = dS s1 f g h) ∧ z.toInt = (fb_ct (difM t K A B U W (O (qI (nI q))) (qI (nI q)) (qI (nI r))) (t ^ I (qI (nI q))).toNat : Int) else z = -1 ∧ u = s1)) 186 ([some (.ref 31), some (.int (nI q)), some (.int (nI r)), some (.int a), some (.int (nI v)), some (.int b), some (.int (nI k))]) ([.int b2']) (dS s1 f3 g3 h) := by
                            intro b2' hb7
                            refine g_ist5 rfl (Nat.le_of_ble_eq_true rfl) eX12_differ_186 ?_
                            refine g_inc6 rfl (Nat.le_of_ble_eq_true rfl) rfl eX12_differ_188 ?_
                            refine g_goto eX12_differ_191 ?_
                            rw [inc1]
                            exact ih8 (k + 1) b2' (by omega) hb7
                          refine g_ild5 eX12_differ_151 ?_
                          refine g_if_ne eX12_differ_153 (fun h153 => ?_) (fun h153 => ?_)
                          · rw [hb8, b2_ne0] at h153
                            refine g_iconst (v := 1) (by decide) eX12_differ_181 ?_
                            refine g_goto eX12_differ_182 ?_
                            exact next 1 (b2_t (fun h9 => h153 (fun j hj => h9 j (by omega))))
                          · rw [hb8] at h153
                            have h153 := b2_eq0.mp h153
                            have h152 := Classical.not_not.mp h153
                            refine g_ald0 eX12_differ_156 ?_
                            refine g_getR (ci := 11) (j := 72) rfl (Nat.le_of_ble_eq_true rfl) (Nat.le_of_ble_eq_true rfl) (Nat.le_of_ble_eq_true rfl) rfl rfl fl_X12_152 eX12_differ_157 ?_
                            refine g_ild6 eX12_differ_160 ?_
                            refine g_iald rfl (Nat.le_of_ble_eq_true rfl) (vp_in_nI (n := k) (N := 4) (by omega) (by decide)) eX12_differ_162 ?_
                            rw [hck, dS_h]
                            refine g_ald0 eX12_differ_163 ?_
                            refine g_ald0 eX12_differ_164 ?_
                            refine g_getR (ci := 11) (j := 23) rfl (Nat.le_of_ble_eq_true rfl) (Nat.le_of_ble_eq_true rfl) (Nat.le_of_ble_eq_true rfl) rfl rfl fl_X12_43 eX12_differ_165 ?_
                            refine g_iconst (v := 4) (by decide) eX12_differ_168 ?_
                            refine g_ild2 eX12_differ_169 ?_
                            refine g_imul eX12_differ_170 ?_
                            refine g_ild6 eX12_differ_171 ?_
                            refine g_iadd eX12_differ_173 ?_
                            rw [ix4]
                            refine g_iald rfl (Nat.le_of_ble_eq_true rfl) (vp_in_nI (n := 4 * r + k) (N := 20) (by omega) (by decide)) eX12_differ_174 ?_
                            rw [nI_clamp (by omega), dS_row s1 f3 g3 h (by decide) (by decide) (by decide)]
                            refine g_callVi (ci := 11) (w_plainValue (dS s1 f3 g3 h) ht2.2 r4 r5 _ (r10 k (by omega)) _ (r8 k (by omega))) rfl (Nat.le_of_ble_eq_true rfl) (Nat.le_of_ble_eq_true rfl) rfl cv_X12_480 eX12_differ_175 ⟨Nat.le_of_ble_eq_true rfl, Nat.le_of_ble_eq_true rfl⟩ rfl rfl (Nat.le_of_ble_eq_true rfl) (fun z u2 hh => ?_)
                            obtain ⟨rfl, hz⟩ := hh
                            rw [plO_of hs3 (r10 k (by omega))] at hz
                            refine g_icmp_eq eX12_differ_178 (fun h178 => ?_) (fun h178 => ?_)
                            · rw [fa_eq, hh9 k (by omega), hz] at h178
                              refine g_iconst (v := 0) (by decide) eX12_differ_185 ?_
                              refine next 0 (b2_f (fun h9 => h9 (fun j hj => ?_)))
                              by_cases hjk : j = k
                              · rw [hjk]; exact h178.symm
                              · exact h152 j (by omega)
                            · rw [fa_eq, hh9 k (by omega), hz] at h178
                              refine g_iconst (v := 1) (by decide) eX12_differ_181 ?_
                              refine g_goto eX12_differ_182 ?_
                              exact next 1 (b2_t (fun h9 => h178 (h9 k (by omega)).symm))
                    refine g_iconst (v := 0) (by decide) eX12_differ_134 ?_
                    refine g_ist5 rfl (Nat.le_of_ble_eq_true rfl) eX12_differ_135 ?_
                    refine g_iconst (v := 0) (by decide) eX12_differ_137 ?_
                    refine g_ist6 rfl (Nat.le_of_ble_eq_true rfl) eX12_differ_138 ?_
                    exact inner (O q) 0 0 (by omega) (b2_f (fun h9 => h9 (fun j hj => by omega)))
                  have fill : ∀ (f8 k : Nat) (h : Nat → Int32), k + f8 = O q → (∀ j, j < k → (h j).toInt = plO (K q) (A q) (B q) (W q) t v (U q j)) → G xp l xe (rmd (4)) xs xm xa xb xme xc D cy xad xA (YX12_differ.2.1, YX12_differ.1.cls, YX12_differ.2.2.1, YX12_differ.2.2.2) (Pi (fun (z : Int32) (u : St) => if isS np (nI q) ∧ isS np (nI r) ∧ I (qI (nI q)) = I (qI (nI r)) ∧ I (qI (nI q)) ≤ 4 ∧ O (qI (nI q)) = O (qI (nI r)) then (∃ f g h, u = dS s1 f g h) ∧ z.toInt = (fb_ct (difM t K A B U W (O (qI (nI q))) (qI (nI q)) (qI (nI r))) (t ^ I (qI (nI q))).toNat : Int) else z = -1 ∧ u = s1)) 88 ([some (.ref 31), some (.int (nI q)), some (.int (nI r)), some (.int a), some (.int (nI v)), some (.int (nI k)), y6]) ([]) (dS s1 f2 g2 h) := by
                    intro f8
                    induction f8 with
                    | zero =>
                      intro k h hk hh9
                      refine g_ild5 eX12_differ_88 ?_
                      refine g_ald0 eX12_differ_90 ?_
                      refine g_getR (ci := 11) (j := 22) rfl (Nat.le_of_ble_eq_true rfl) (Nat.le_of_ble_eq_true rfl) (Nat.le_of_ble_eq_true rfl) rfl rfl fl_X12_40 eX12_differ_91 ?_
                      refine g_ild1 eX12_differ_94 ?_
                      refine g_iald rfl (Nat.le_of_ble_eq_true rfl) (vp_in_nI (n := q) (N := 5) (by omega) (by decide)) eX12_differ_95 ?_
                      rw [hc, dS_row s1 f2 g2 h (by decide) (by decide) (by decide), p3]
                      refine g_icmp_ge eX12_differ_96 (fun h96 => ?_) (fun h96 => ?_)
                      · rw [show k = O q by omega]
                        exact comp h (fun j hj => hh9 j (by omega)) y6
                      · exact absurd (nI_le (by omega) (by omega)) h96
                    | succ f8 ih8 =>
                      intro k h hk hh9
                      have hck : (nI k).toNatClampNeg = k := nI_clamp (by omega)
                      refine g_ild5 eX12_differ_88 ?_
                      refine g_ald0 eX12_differ_90 ?_
                      refine g_getR (ci := 11) (j := 22) rfl (Nat.le_of_ble_eq_true rfl) (Nat.le_of_ble_eq_true rfl) (Nat.le_of_ble_eq_true rfl) rfl rfl fl_X12_40 eX12_differ_91 ?_
                      refine g_ild1 eX12_differ_94 ?_
                      refine g_iald rfl (Nat.le_of_ble_eq_true rfl) (vp_in_nI (n := q) (N := 5) (by omega) (by decide)) eX12_differ_95 ?_
                      rw [hc, dS_row s1 f2 g2 h (by decide) (by decide) (by decide), p3]
                      refine g_icmp_ge eX12_differ_96 (fun h96 => ?_) (fun h96 => ?_)
                      · exact absurd h96 (nI_ge (by omega) (by omega))
                      · refine g_ald0 eX12_differ_99 ?_
                        refine g_getR (ci := 11) (j := 72) rfl (Nat.le_of_ble_eq_true rfl) (Nat.le_of_ble_eq_true rfl) (Nat.le_of_ble_eq_true rfl) rfl rfl fl_X12_152 eX12_differ_100 ?_
                        refine g_ild5 eX12_differ_103 ?_
                        refine g_ald0 eX12_differ_105 ?_
                        refine g_ald0 eX12_differ_106 ?_
                        refine g_getR (ci := 11) (j := 23) rfl (Nat.le_of_ble_eq_true rfl) (Nat.le_of_ble_eq_true rfl) (Nat.le_of_ble_eq_true rfl) rfl rfl fl_X12_43 eX12_differ_107 ?_
                        refine g_iconst (v := 4) (by decide) eX12_differ_110 ?_
                        refine g_ild1 eX12_differ_111 ?_
                        refine g_imul eX12_differ_112 ?_
                        refine g_ild5 eX12_differ_113 ?_
                        refine g_iadd eX12_differ_115 ?_
                        rw [ix4]
                        refine g_iald rfl (Nat.le_of_ble_eq_true rfl) (vp_in_nI (n := 4 * q + k) (N := 20) (by omega) (by decide)) eX12_differ_116 ?_
                        rw [nI_clamp (by omega), dS_row s1 f2 g2 h (by decide) (by decide) (by decide)]
                        refine g_callVi (ci := 11) (w_plainValue (dS s1 f2 g2 h) ht2.2 p4 p5 _ (p10 k (by omega)) _ (p8 k (by omega))) rfl (Nat.le_of_ble_eq_true rfl) (Nat.le_of_ble_eq_true rfl) rfl cv_X12_480 eX12_differ_117 ⟨Nat.le_of_ble_eq_true rfl, Nat.le_of_ble_eq_true rfl⟩ rfl rfl (Nat.le_of_ble_eq_true rfl) (fun z u2 hh => ?_)
                        obtain ⟨rfl, hz⟩ := hh
                        rw [plO_of (s := slP (dS s1 f2 g2 h)) (fun j hj => (slP_dS s1 f2 g2 h h0 j).trans (hs j hj)) (p10 k (by omega))] at hz
                        refine g_iast rfl (Nat.le_of_ble_eq_true rfl) (vp_in_nI (n := k) (N := 4) (by omega) (by decide)) eX12_differ_120 ?_
                        rw [hck, dS_ph]
                        refine g_inc5 rfl (Nat.le_of_ble_eq_true rfl) rfl eX12_differ_121 ?_
                        refine g_goto eX12_differ_124 ?_
                        rw [inc1]
                        refine ih8 (k + 1) _ (by omega) (fun j hj => ?_)
                        unfold upd
                        by_cases hjk : j = k
                        · rw [if_pos hjk, hz, hjk]
                        · rw [if_neg hjk]; exact hh9 j (by omega)
                  refine g_iconst (v := 0) (by decide) eX12_differ_85 ?_
                  refine g_ist5 rfl (Nat.le_of_ble_eq_true rfl) eX12_differ_86 ?_
                  exact fill (O q) 0 h0 (by omega) (fun j hj => by omega)
            refine g_iconst (v := 0) (by decide) eX12_differ_63 ?_
            refine g_ist3 rfl (Nat.le_of_ble_eq_true rfl) eX12_differ_64 ?_
            refine g_iconst (v := 0) (by decide) eX12_differ_65 ?_
            refine g_ist4 rfl (Nat.le_of_ble_eq_true rfl) eX12_differ_66 ?_
            have go := loop (t ^ I q).toNat 0 (s1.1 75) (s1.1 76) (s1.1 77) 0 none none (by omega) rfl
            rw [dS_same] at go
            exact go
          · rw [fa_eq, nI_toInt (by omega), nI_toInt (by omega)] at h58
            exact bad (fun h => h58 (by have h9 := h.2.2.2.2; rw [e, er] at h9; omega))
end MODN
