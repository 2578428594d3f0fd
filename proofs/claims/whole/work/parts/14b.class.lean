/-! SealedSums: run -/
section CLSF
variable {l : Launch} {D : va_G} {cy : Nat → ClassId}
theorem addX_row (st : St) (n : Nat) (k c b d : Int32) {a : Nat} (h1 : a ≠ 18) (h2 : a ≠ 19) (h3 : a ≠ 20) (h4 : a ≠ 21) (h5 : a ≠ 17) : (addX st n k c b d).1 a = st.1 a := by
  unfold addX
  rw [sI_row h5, sI_row h4, sI_row h3, sI_row h2, sI_row h1]
theorem addX_n (st : St) (n : Nat) (k c b d : Int32) : (addX st n k c b d).1 17 4 = nI (n + 1) := by
  unfold addX
  rw [sI_1, if_pos ⟨rfl, rfl⟩]
theorem addX_K (st : St) (n : Nat) (k c b d : Int32) (j : Nat) : (addX st n k c b d).1 18 j = if j = n then k else st.1 18 j := by
  unfold addX
  rw [sI_row (by decide), sI_row (by decide), sI_row (by decide), sI_row (by decide), sI_1]
  by_cases h : j = n
  · rw [if_pos ⟨rfl, h⟩, if_pos h]
  · rw [if_neg (fun q => h q.2), if_neg h]
theorem addX_C (st : St) (n : Nat) (k c b d : Int32) (j : Nat) : (addX st n k c b d).1 19 j = if j = n then c else st.1 19 j := by
  unfold addX
  rw [sI_row (by decide), sI_row (by decide), sI_row (by decide), sI_1, sI_row (by decide)]
  by_cases h : j = n
  · rw [if_pos ⟨rfl, h⟩, if_pos h]
  · rw [if_neg (fun q => h q.2), if_neg h]
theorem addX_B (st : St) (n : Nat) (k c b d : Int32) (j : Nat) : (addX st n k c b d).1 20 j = if j = n then b else st.1 20 j := by
  unfold addX
  rw [sI_row (by decide), sI_row (by decide), sI_1, sI_row (by decide), sI_row (by decide)]
  by_cases h : j = n
  · rw [if_pos ⟨rfl, h⟩, if_pos h]
  · rw [if_neg (fun q => h q.2), if_neg h]
theorem addX_D (st : St) (n : Nat) (k c b d : Int32) (j : Nat) : (addX st n k c b d).1 21 j = if j = n then d else st.1 21 j := by
  unfold addX
  rw [sI_row (by decide), sI_1, sI_row (by decide), sI_row (by decide), sI_row (by decide)]
  by_cases h : j = n
  · rw [if_pos ⟨rfl, h⟩, if_pos h]
  · rw [if_neg (fun q => h q.2), if_neg h]
theorem addX_2 (st : St) (n : Nat) (k c b d : Int32) : (addX st n k c b d).2 = st.2 := rfl
theorem xOK_addX {st : St} {nk n : Nat} (h : xOK st nk n) (hn : n < 60) {i : Nat} (hi : i < nk) (c b d : Int32) (hb : 0 ≤ b.toInt ∧ b.toInt ≤ 1000000) : xOK (addX st n (nI i) c b d) nk (n + 1) := by
  obtain ⟨h1, h2, h3, h4, h5, h6, h7, h8⟩ := h
  refine ⟨?_, h2, addX_n _ _ _ _ _ _, by omega, ?_, fun j hj => ?_, fun a ha => ?_, fun a ha => ?_⟩
  · rw [addX_row _ _ _ _ _ _ (by decide) (by decide) (by decide) (by decide) (by decide)]; exact h1
  · rw [addX_row _ _ _ _ _ _ (by decide) (by decide) (by decide) (by decide) (by decide)]; exact h5
  · unfold keyAt
    rw [addX_row _ _ _ _ _ _ (by omega) (by omega) (by omega) (by omega) (by omega)]
    exact h6 j hj
  · rw [addX_K]
    by_cases e : a = n
    · rw [if_pos e]; exact ⟨i, hi, rfl⟩
    · rw [if_neg e]; exact h7 a (by omega)
  · rw [addX_B]
    by_cases e : a = n
    · rw [if_pos e]; exact hb
    · rw [if_neg e]; exact h8 a (by omega)
theorem xOK_sR {st : St} {nk n : Nat} (h : xOK st nk n) {k : Nat} (f : Nat → Int32) (hk : 21 < k) (hk2 : k < 83) : xOK (sR st k f) nk n := by
  obtain ⟨h1, h2, h3, h4, h5, h6, h7, h8⟩ := h
  refine ⟨?_, h2, ?_, h4, ?_, fun j hj => ?_, fun a ha => ?_, fun a ha => ?_⟩
  · rw [sR_ne (by omega)]; exact h1
  · rw [sR_ne (by omega)]; exact h3
  · rw [sR_ne (by omega)]; exact h5
  · unfold keyAt
    rw [sR_ne (by omega)]; exact h6 j hj
  · rw [sR_ne (by omega)]; exact h7 a ha
  · rw [sR_ne (by omega)]; exact h8 a ha
def xgv (st : St) : Nat → Int := fun i => (st.1 23 i).toInt
def xkof (st : St) : Nat → Int := fun a => (st.1 18 a).toInt
def xcof (st : St) : Nat → Int := fun a => (st.1 19 a).toInt
def xbof (st : St) : Nat → Int := fun a => (st.1 20 a).toInt
theorem m_keyOfGivenIns (st : St) {nk n : Nat} (hx : xOK st nk n) (hgv : ∀ i, i < 6 → xgv st i = -1 ∨ (0 ≤ xgv st i ∧ xgv st i < (n : Int))) (ins : Nat) (hI : ins ≤ 6) : Mi l D cy 1 YX11_keyOfGivenIns [.ref 0, .int (nI ins)] st (fun r u => u = st ∧ (givOK (xgv st) (xkof st) ins → r.toInt = xkof st (xgv st 0).toNat) ∧ (¬ givOK (xgv st) (xkof st) ins → r = -1)) := by
  obtain ⟨h1, h2, h3, h4, h5, h6, h7, h8⟩ := hx
  have hcn : (st.1 17 4).toInt = n := by rw [h3, nI_toInt (by omega)]
  refine M.ofG [some (.ref 0), some (.int (nI ins)), none, none, none] (by decide) (Nat.le_of_ble_eq_true rfl) rfl ?_
  intro xp xe xs xm xa xb xme xc xad xA
  have loop : ∀ (f a : Nat) (k : Int32) (y4 : Option Value), a + f = ins → (a = 0 → k = -1) → (0 < a → k.toInt = xkof st (xgv st 0).toNat) → (∀ j, j < a → 0 ≤ xgv st j ∧ xkof st (xgv st j).toNat = xkof st (xgv st 0).toNat) → G xp l xe (rmd (1)) xs xm xa xb xme xc D cy xad xA (YX11_keyOfGivenIns.2.1, YX11_keyOfGivenIns.1.cls, YX11_keyOfGivenIns.2.2.1, YX11_keyOfGivenIns.2.2.2) (Pi (fun (r : Int32) (u : St) => u = st ∧ (givOK (xgv st) (xkof st) ins → r.toInt = xkof st (xgv st 0).toNat) ∧ (¬ givOK (xgv st) (xkof st) ins → r = -1))) 4 ([some (.ref 0), some (.int (nI ins)), some (.int k), some (.int (nI a)), y4]) ([]) (st) := by
    intro f
    induction f with
    | zero =>
      intro a k y4 ha hk0 hk1 hall
      have hend : G xp l xe (rmd (1)) xs xm xa xb xme xc D cy xad xA (YX11_keyOfGivenIns.2.1, YX11_keyOfGivenIns.1.cls, YX11_keyOfGivenIns.2.2.1, YX11_keyOfGivenIns.2.2.2) (Pi (fun (r : Int32) (u : St) => u = st ∧ (givOK (xgv st) (xkof st) ins → r.toInt = xkof st (xgv st 0).toNat) ∧ (¬ givOK (xgv st) (xkof st) ins → r = -1))) 67 ([some (.ref 0), some (.int (nI ins)), some (.int k), some (.int (nI a)), y4]) ([]) (st) := by
        refine g_ild2 eX11_keyOfGivenIns_67 ?_
        refine g_iret rfl eX11_keyOfGivenIns_68 ⟨_, rfl, ?_⟩
        try dsimp only
        refine ⟨rfl, fun h => hk1 (by have := h.1; omega), fun h => hk0 ?_⟩
        by_cases h0 : a = 0
        · exact h0
        · exact absurd ⟨by omega, fun j hj => hall j (by omega)⟩ h
      refine g_ild3 eX11_keyOfGivenIns_4 ?_
      refine g_ild1 eX11_keyOfGivenIns_5 ?_
      refine g_icmp_ge eX11_keyOfGivenIns_6 (fun hb => ?_) (fun hb => ?_)
      · exact hend
      · exact absurd (nI_le (by omega) (by omega)) hb
    | succ f ih =>
      intro a k y4 ha hk0 hk1 hall
      have hca : (nI a).toNatClampNeg = a := nI_clamp (by omega)
      refine g_ild3 eX11_keyOfGivenIns_4 ?_
      refine g_ild1 eX11_keyOfGivenIns_5 ?_
      refine g_icmp_ge eX11_keyOfGivenIns_6 (fun hb => ?_) (fun hb => ?_)
      · exact absurd hb (nI_ge (by omega) (by omega))
      · refine g_ild3 eX11_keyOfGivenIns_9 ?_
        refine g_bipush (v := 6) (by decide) eX11_keyOfGivenIns_10 ?_
        refine g_icmp_ge eX11_keyOfGivenIns_12 (fun hb2 => ?_) (fun hb2 => ?_)
        · exact absurd hb2 (nI_ge (a := a) (b := 6) (by omega) (by omega))
        · refine g_ald0 eX11_keyOfGivenIns_15 ?_
          refine g_ald0 eX11_keyOfGivenIns_16 ?_
          refine g_getR (ci := 10) (j := 11) rfl (Nat.le_of_ble_eq_true rfl) (Nat.le_of_ble_eq_true rfl) (Nat.le_of_ble_eq_true rfl) rfl rfl fl_X11_52 eX11_keyOfGivenIns_17 ?_
          refine g_ild3 eX11_keyOfGivenIns_20 ?_
          refine g_iald rfl (Nat.le_of_ble_eq_true rfl) (vp_in_nI (n := a) (N := 6) (by omega) (by decide)) eX11_keyOfGivenIns_21 ?_
          rw [hca]
          refine g_callVi (ci := 10) (m_isSealed _ _) rfl (Nat.le_of_ble_eq_true rfl) (Nat.le_of_ble_eq_true rfl) rfl cv_X11_151 eX11_keyOfGivenIns_22 ⟨Nat.le_of_ble_eq_true rfl, Nat.le_of_ble_eq_true rfl⟩ rfl rfl (Nat.le_of_ble_eq_true rfl) (fun r st h => ?_)
          obtain ⟨rfl, rfl⟩ := h
          rw [hcn]
          refine g_if_ne eX11_keyOfGivenIns_25 (fun hb3 => ?_) (fun hb3 => ?_)
          · rw [b2_ne0] at hb3
            have hb4 : 0 ≤ xgv st a ∧ xgv st a < (n : Int) := hb3
            have ek : (st.1 18 (st.1 23 a).toNatClampNeg).toInt = xkof st (xgv st a).toNat := rfl
            refine g_ald0 eX11_keyOfGivenIns_30 ?_
            refine g_getR (ci := 10) (j := 8) rfl (Nat.le_of_ble_eq_true rfl) (Nat.le_of_ble_eq_true rfl) (Nat.le_of_ble_eq_true rfl) rfl rfl fl_X11_39 eX11_keyOfGivenIns_31 ?_
            refine g_getR (ci := 7) (j := 0) rfl (Nat.le_of_ble_eq_true rfl) (Nat.le_of_ble_eq_true rfl) (Nat.le_of_ble_eq_true rfl) rfl rfl fl_X11_154 eX11_keyOfGivenIns_34 ?_
            refine g_ald0 eX11_keyOfGivenIns_37 ?_
            refine g_getR (ci := 10) (j := 11) rfl (Nat.le_of_ble_eq_true rfl) (Nat.le_of_ble_eq_true rfl) (Nat.le_of_ble_eq_true rfl) rfl rfl fl_X11_52 eX11_keyOfGivenIns_38 ?_
            refine g_ild3 eX11_keyOfGivenIns_41 ?_
            refine g_iald rfl (Nat.le_of_ble_eq_true rfl) (vp_in_nI (n := a) (N := 6) (by omega) (by decide)) eX11_keyOfGivenIns_42 ?_
            refine g_iald rfl (Nat.le_of_ble_eq_true rfl) (by rw [hca]; exact vin hb3.1 (Int.lt_of_lt_of_le hb3.2 (by show (n : Int) ≤ ((60 : Nat) : Int); omega))) eX11_keyOfGivenIns_43 ?_
            rw [hca]
            generalize hzk : st.1 18 (st.1 23 a).toNatClampNeg = zk at ek ⊢
            have next : xkof st (xgv st a).toNat = xkof st (xgv st 0).toNat → G xp l xe (rmd (1)) xs xm xa xb xme xc D cy xad xA (YX11_keyOfGivenIns.2.1, YX11_keyOfGivenIns.1.cls, YX11_keyOfGivenIns.2.2.1, YX11_keyOfGivenIns.2.2.2) (Pi (fun (r : Int32) (u : St) => u = st ∧ (givOK (xgv st) (xkof st) ins → r.toInt = xkof st (xgv st 0).toNat) ∧ (¬ givOK (xgv st) (xkof st) ins → r = -1))) 58 ([some (.ref 0), some (.int (nI ins)), some (.int k), some (.int (nI a)), some (.int zk)]) ([]) (st) := by
              intro hsame
              refine g_ild4 eX11_keyOfGivenIns_58 ?_
              refine g_ist2 rfl (Nat.le_of_ble_eq_true rfl) eX11_keyOfGivenIns_60 ?_
              refine g_inc3 rfl (Nat.le_of_ble_eq_true rfl) rfl eX11_keyOfGivenIns_61 ?_
              refine g_goto eX11_keyOfGivenIns_64 ?_
              rw [inc1]
              refine ih (a + 1) zk _ (by omega) (fun h => by omega) (fun _ => by rw [ek, hsame]) (fun j hj => ?_)
              by_cases hja : j = a
              · rw [hja]; exact ⟨hb4.1, hsame⟩
              · exact hall j (by omega)
            refine g_ist4 rfl (Nat.le_of_ble_eq_true rfl) eX11_keyOfGivenIns_44 ?_
            refine g_ild3 eX11_keyOfGivenIns_46 ?_
            refine g_if_le eX11_keyOfGivenIns_47 (fun h47 => ?_) (fun h47 => ?_)
            · rw [fa_le, z32, nI_toInt (by omega)] at h47
              exact next (by rw [show a = 0 by omega])
            · rw [fa_le, z32, nI_toInt (by omega)] at h47
              refine g_ild4 eX11_keyOfGivenIns_50 ?_
              refine g_ild2 eX11_keyOfGivenIns_52 ?_
              refine g_icmp_eq eX11_keyOfGivenIns_53 (fun h53 => ?_) (fun h53 => ?_)
              · rw [fa_eq, ek, hk1 (by omega)] at h53
                exact next h53
              · rw [fa_eq, ek, hk1 (by omega)] at h53
                refine g_iconst (v := (-1)) (by decide) eX11_keyOfGivenIns_56 ?_
                refine g_iret rfl eX11_keyOfGivenIns_57 ⟨_, rfl, ?_⟩
                try dsimp only
                exact ⟨rfl, fun h => absurd (h.2 a (by omega)).2 h53, fun _ => rfl⟩
          · rw [b2_eq0] at hb3
            refine g_iconst (v := (-1)) (by decide) eX11_keyOfGivenIns_28 ?_
            refine g_iret rfl eX11_keyOfGivenIns_29 ⟨_, rfl, ?_⟩
            try dsimp only
            refine ⟨rfl, fun h => absurd ?_ hb3, fun _ => rfl⟩
            have h9 := (h.2 a (by omega)).1
            have h8 := (hgv a (by omega)).resolve_left (fun q => by omega)
            exact h8
  refine g_iconst (v := (-1)) (by decide) eX11_keyOfGivenIns_0 ?_
  refine g_ist2 rfl (Nat.le_of_ble_eq_true rfl) eX11_keyOfGivenIns_1 ?_
  refine g_iconst (v := 0) (by decide) eX11_keyOfGivenIns_2 ?_
  refine g_ist3 rfl (Nat.le_of_ble_eq_true rfl) eX11_keyOfGivenIns_3 ?_
  exact loop ins 0 (-1) none (by omega) (fun _ => rfl) (fun h => by omega) (fun j hj => by omega)
theorem m_addOutX (st : St) {nk n : Nat} (hx : xOK st nk n) (hn : n < 60) {i : Nat} (hik : i < nk) (c0 seed : Int32) (hc : (0 ≤ c0.toInt ∧ c0.toInt < 46) ∨ (-13 ≤ c0.toInt ∧ c0.toInt < 0)) : Mv l D cy 4 YX11_addOut [.ref 0, .int (nI i), .int c0, .int seed] st (fun u => ∃ c b : Int32, c.toInt = (if c0.toInt < 0 then fC st i (-1 - c0.toInt) seed else (st.1 25 c0.toInt.toNat).toInt) ∧ b.toInt = (if c0.toInt < 0 then fB st i else (st.1 26 c0.toInt.toNat).toInt) ∧ u = addX st n (nI i) c b 7) := by
  have hx9 := hx
  obtain ⟨h1, h2, h3, h4, h5, h6, h7, h8⟩ := hx
  refine M.ofG [some (.ref 0), some (.int (nI i)), some (.int c0), some (.int seed)] (by decide) (Nat.le_of_ble_eq_true rfl) rfl ?_
  intro xp xe xs xm xa xb xme xc xad xA
  refine g_ild2 eX11_addOut_0 ?_
  refine g_callSi (m_isOpen _ c0) cs_X11_372 eX11_addOut_1 ⟨Nat.le_of_ble_eq_true rfl, Nat.le_of_ble_eq_true rfl⟩ rfl rfl (Nat.le_of_ble_eq_true rfl) (fun r st h => ?_)
  obtain ⟨rfl, rfl⟩ := h
  refine g_if_eq eX11_addOut_4 (fun hb => ?_) (fun hb => ?_)
  · rw [b2_eq0] at hb
    have hcr : 0 ≤ c0.toInt ∧ c0.toInt < 46 := by omega
    refine g_ald0 eX11_addOut_23 ?_
    refine g_getR (ci := 10) (j := 8) rfl (Nat.le_of_ble_eq_true rfl) (Nat.le_of_ble_eq_true rfl) (Nat.le_of_ble_eq_true rfl) rfl rfl fl_X11_39 eX11_addOut_24 ?_
    refine g_ild1 eX11_addOut_27 ?_
    refine g_ald0 eX11_addOut_28 ?_
    refine g_getR (ci := 10) (j := 12) rfl (Nat.le_of_ble_eq_true rfl) (Nat.le_of_ble_eq_true rfl) (Nat.le_of_ble_eq_true rfl) rfl rfl fl_X11_87 eX11_addOut_29 ?_
    refine g_getR (ci := 0) (j := 1) rfl (Nat.le_of_ble_eq_true rfl) (Nat.le_of_ble_eq_true rfl) (Nat.le_of_ble_eq_true rfl) rfl rfl fl_X11_378 eX11_addOut_32 ?_
    refine g_ild2 eX11_addOut_35 ?_
    refine g_iald rfl (Nat.le_of_ble_eq_true rfl) (vin hcr.1 (by show c0.toInt < ((46 : Nat) : Int); omega)) eX11_addOut_36 ?_
    refine g_ald0 eX11_addOut_37 ?_
    refine g_getR (ci := 10) (j := 12) rfl (Nat.le_of_ble_eq_true rfl) (Nat.le_of_ble_eq_true rfl) (Nat.le_of_ble_eq_true rfl) rfl rfl fl_X11_87 eX11_addOut_38 ?_
    refine g_getR (ci := 0) (j := 2) rfl (Nat.le_of_ble_eq_true rfl) (Nat.le_of_ble_eq_true rfl) (Nat.le_of_ble_eq_true rfl) rfl rfl fl_X11_379 eX11_addOut_41 ?_
    refine g_ild2 eX11_addOut_44 ?_
    refine g_iald rfl (Nat.le_of_ble_eq_true rfl) (vin hcr.1 (by show c0.toInt < ((46 : Nat) : Int); omega)) eX11_addOut_45 ?_
    refine g_bipush (v := 7) (by decide) eX11_addOut_46 ?_
    refine g_callVi (ci := 7) (m_add _ (nI i) _ _ 7 n h3 h4) rfl (Nat.le_of_ble_eq_true rfl) (Nat.le_of_ble_eq_true rfl) rfl cv_X11_360 eX11_addOut_48 ⟨Nat.le_of_ble_eq_true rfl, Nat.le_of_ble_eq_true rfl⟩ rfl rfl (Nat.le_of_ble_eq_true rfl) (fun r u h => ?_)
    rw [if_neg (by omega)] at h
    refine g_pop rfl eX11_addOut_51 ?_
    refine g_vret rfl eX11_addOut_52 ⟨rfl, ?_⟩
    try dsimp only
    refine ⟨_, _, ?_, ?_, h.2⟩
    · rw [if_neg hb, clamp_to]
    · rw [if_neg hb, clamp_to]
  · rw [b2_ne0] at hb
    have ho := neg1_sub (x := c0) (by omega)
    refine g_ald0 eX11_addOut_7 ?_
    refine g_ild1 eX11_addOut_8 ?_
    refine g_ild2 eX11_addOut_9 ?_
    refine g_callSi (m_openNumber _ c0) cs_X11_375 eX11_addOut_10 ⟨Nat.le_of_ble_eq_true rfl, Nat.le_of_ble_eq_true rfl⟩ rfl rfl (Nat.le_of_ble_eq_true rfl) (fun z st h => ?_)
    obtain ⟨rfl, rfl⟩ := h
    generalize -1 - c0 = zo at ho ⊢
    refine g_ild3 eX11_addOut_13 ?_
    refine g_bipush (v := 7) (by decide) eX11_addOut_14 ?_
    refine g_callVi (ci := 10) (m_addFresh _ hx9 hik zo seed 7 (by rw [ho]; omega)) rfl (Nat.le_of_ble_eq_true rfl) (Nat.le_of_ble_eq_true rfl) rfl cv_X11_147 eX11_addOut_16 ⟨Nat.le_of_ble_eq_true rfl, Nat.le_of_ble_eq_true rfl⟩ rfl rfl (Nat.le_of_ble_eq_true rfl) (fun r u h => ?_)
    rw [if_neg (by omega)] at h
    obtain ⟨-, c, b, hcc, hbb, rfl⟩ := h
    refine g_pop rfl eX11_addOut_19 ?_
    refine g_goto eX11_addOut_20 ?_
    refine g_vret rfl eX11_addOut_52 ⟨rfl, ?_⟩
    try dsimp only
    refine ⟨c, b, ?_, ?_, rfl⟩
    · rw [if_pos hb, hcc, ho]
    · rw [if_pos hb, hbb]
/-- the outs of a run, a row each -/
def addR (st : St) (n : Nat) (key : Int32) (C Bd : Nat → Int) : Nat → St → Prop
  | 0, u => u = st
  | k + 1, u => ∃ u0, addR st n key C Bd k u0 ∧ ∃ c b : Int32, c.toInt = C k ∧ b.toInt = Bd k ∧ u = addX u0 (n + k) key c b 7
theorem addR_keeps {st : St} {nk n i : Nat} {C Bd : Nat → Int} (hx : xOK st nk n) (hi : i < nk) {O : Nat} (hO : n + O ≤ 60) (hB : ∀ k, k < O → 0 ≤ Bd k ∧ Bd k ≤ 1000000) : ∀ {k : Nat} {u : St}, k ≤ O → addR st n (nI i) C Bd k u → xOK u nk (n + k) ∧ (∀ a, a ≠ 18 → a ≠ 19 → a ≠ 20 → a ≠ 21 → a ≠ 17 → u.1 a = st.1 a) ∧ u.2 = st.2
  | 0, u, _, h => by
    change u = st at h
    rw [h]
    exact ⟨hx, fun _ _ _ _ _ _ => rfl, rfl⟩
  | k + 1, u, hk, h => by
    obtain ⟨u0, h0, c, b, -, hb, rfl⟩ := h
    obtain ⟨i1, i2, i3⟩ := addR_keeps hx hi hO hB (by omega) h0
    exact ⟨xOK_addX i1 (by omega) hi c b 7 (by rw [hb]; exact hB k (by omega)), fun a q1 q2 q3 q4 q5 => by rw [addX_row _ _ _ _ _ _ q1 q2 q3 q4 q5]; exact i2 a q1 q2 q3 q4 q5, by rw [addX_2]; exact i3⟩
end CLSF
