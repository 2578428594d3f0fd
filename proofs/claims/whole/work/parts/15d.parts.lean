/-! Parts: the class -/
section PARTD
variable {l : Launch} {D : va_G} {cy : Nat → ClassId}
/-- a key's parts: n dealt, k needed -/
def ptOK (st : St) (i n k : Nat) : Prop := st.1 (84 + 3 * i) 1 = nI n ∧ n ≤ 6 ∧ st.1 (84 + 3 * i) 2 = nI k ∧ k ≤ 6 ∧ ∀ j, 1 ≤ j → j < 7 → 0 ≤ (st.1 (85 + 3 * i) j).toInt ∧ (st.1 (85 + 3 * i) j).toInt < 100003
def ptY (st : St) (i : Nat) : Nat → Int := fun j => (st.1 (85 + 3 * i) j).toInt
theorem all_eq : ∀ n, n < 7 → ((1 : Int32) <<< (nI n &&& 31)) - 1 = nI (2 ^ n - 1) := by decide +kernel
theorem not_eq : ∀ n, n < 7 → ∀ i, i < 7 → 1 ≤ i → i ≤ n → nI (2 ^ n - 1) &&& (((1 : Int32) <<< ((nI i - 1) &&& 31)) ^^^ (-1)) = nI (without n i) := by decide +kernel
theorem or_eq : ∀ x, x < 64 → ∀ a, a < 7 → 1 ≤ a → x < 2 ^ (a - 1) → nI x ||| ((1 : Int32) <<< ((nI a - 1) &&& 31)) = nI (x + 2 ^ (a - 1)) := by decide +kernel
theorem m_all (st : St) {i : Nat} (hi : i < 4) (n : Nat) (h1 : st.1 (84 + 3 * i) 1 = nI n) (hn : n < 7) : Mi l D cy 0 YX6_all [.ref (84 + 3 * i)] st (fun r u => u = st ∧ r = nI (2 ^ n - 1)) := by
  refine M.ofG [some (.ref (84 + 3 * i))] (by decide) (Nat.le_of_ble_eq_true rfl) rfl ?_
  intro xp xe xs xm xa xb xme xc xad xA
  refine g_iconst (v := 1) (by decide) eX6_all_0 ?_
  refine g_ald0 eX6_all_1 ?_
  refine g_getI (ci := 5) (j := 1) (by first | rfl | exact kd_key hi | exact kd_sh hi | exact kd_ya hi | exact kd_pr hq | exact kd_pk hq | exact kd_pf hq | exact kd_ps hq | exact kd_po hq | exact kd_pr hq2 | exact kd_pk hq2 | exact kd_pf hq2 | exact kd_ps hq2 | exact kd_po hq2) (by first | decide | (unfold N0; omega)) (Nat.le_of_ble_eq_true rfl) (Nat.le_of_ble_eq_true rfl) rfl fl_X6_13 eX6_all_2 ?_
  rw [h1]
  refine g_ishl eX6_all_5 ?_
  refine g_iconst (v := 1) (by decide) eX6_all_6 ?_
  refine g_isub eX6_all_7 ?_
  refine g_iret rfl eX6_all_8 ⟨_, rfl, ?_⟩
  try dsimp only
  exact ⟨rfl, all_eq n hn⟩
theorem m_holdsPart (st : St) {i : Nat} (hi : i < 4) (m0 : Nat) (hm : m0 < 64) (j : Nat) (hj : 1 ≤ j ∧ j < 7) : Mi l D cy 0 YX6_holdsPart [.ref (84 + 3 * i), .int (nI m0), .int (nI j)] st (fun r u => u = st ∧ r = b2 (bitS m0 j = true)) := by
  have e1 : nI j - 1 = nI (j - 1) := by rw [show j = (j - 1) + 1 by omega, nI_pred]; rfl
  have e2 := shr_pow (nI m0) (m0 := j - 1) (by omega)
  rw [nI_toInt (by omega)] at e2
  have hp : (0 : Int) < 2 ^ (j - 1) := Int.pow_pos (by decide)
  have e3 : 0 ≤ (nI m0 >>> (nI (j - 1) &&& 31)).toInt := by rw [e2]; exact Int.ediv_nonneg (by omega) (by omega)
  have e4 := bit0 _ e3
  rw [e2] at e4
  have e5 : ((m0 : Int) / 2 ^ (j - 1) % 2) = ((m0 / 2 ^ (j - 1) % 2 : Nat) : Int) := by
    rw [Int.natCast_emod, Int.natCast_ediv, Int.natCast_pow]; rfl
  rw [e5] at e4
  refine M.ofG [some (.ref (84 + 3 * i)), some (.int (nI m0)), some (.int (nI j))] (by decide) (Nat.le_of_ble_eq_true rfl) rfl ?_
  intro xp xe xs xm xa xb xme xc xad xA
  refine g_ild1 eX6_holdsPart_0 ?_
  refine g_ild2 eX6_holdsPart_1 ?_
  refine g_iconst (v := 1) (by decide) eX6_holdsPart_2 ?_
  refine g_isub eX6_holdsPart_3 ?_
  rw [e1]
  refine g_ishr eX6_holdsPart_4 ?_
  refine g_iconst (v := 1) (by decide) eX6_holdsPart_5 ?_
  refine g_iand eX6_holdsPart_6 ?_
  refine g_iconst (v := 1) (by decide) eX6_holdsPart_7 ?_
  refine g_icmp_ne eX6_holdsPart_8 (fun hb => ?_) (fun hb => ?_)
  · refine g_iconst (v := 0) (by decide) eX6_holdsPart_15 ?_
    refine g_zret (ty := .boolean) rfl (by first | rfl | assumption) eX6_holdsPart_16 ⟨_, rfl, ?_⟩
    try dsimp only
    refine ⟨rfl, b2_f (fun h => hb ?_)⟩
    rw [fa_eq, e4, o32]
    have := (of_decide_eq_true h).2
    omega
  · refine g_iconst (v := 1) (by decide) eX6_holdsPart_11 ?_
    refine g_goto eX6_holdsPart_12 ?_
    refine g_zret (ty := .boolean) rfl (by first | rfl | assumption) eX6_holdsPart_16 ⟨_, rfl, ?_⟩
    try dsimp only
    refine ⟨rfl, b2_t ?_⟩
    rw [fa_eq, e4, o32] at hb
    exact decide_eq_true ⟨hj.1, by omega⟩
theorem fnM_done {m k a : Nat} (h : ∀ j, a ≤ j → ¬ (bitS m j = true ∧ fb_ct (bitS m) j < k)) : ∀ d, fnM m k (a + d) = fnM m k a
  | 0 => rfl
  | d + 1 => by
    show fnM m k (a + d) + (if bitS m (a + d) = true ∧ fb_ct (bitS m) (a + d) < k then 2 ^ (a + d - 1) else 0) = _
    rw [fnM_done h d, if_neg (h _ (by omega)), Nat.add_zero]
theorem m_firstNeeded (st : St) {i : Nat} (hi : i < 4) {n k : Nat} (hp : ptOK st i n k) (m0 : Nat) (hm : m0 < 2 ^ n) : Mi l D cy 1 YX6_firstNeeded [.ref (84 + 3 * i), .int (nI m0)] st (fun r u => u = st ∧ r = nI (first m0 k)) := by
  obtain ⟨h1, h2, h3, h4, h5⟩ := hp
  have hm6 : m0 < 64 := lt64 (by omega) hm
  refine M.ofG [some (.ref (84 + 3 * i)), some (.int (nI m0)), none, none, none] (by decide) (Nat.le_of_ble_eq_true rfl) rfl ?_
  intro xp xe xs xm xa xb xme xc xad xA
  have loop : ∀ (d a : Nat), a + d = n + 1 → 1 ≤ a → fb_ct (bitS m0) a ≤ k → G xp l xe (rmd (1)) xs xm xa xb xme xc D cy xad xA (YX6_firstNeeded.2.1, YX6_firstNeeded.1.cls, YX6_firstNeeded.2.2.1, YX6_firstNeeded.2.2.2) (Pi (fun (r : Int32) (u : St) => u = st ∧ r = nI (first m0 k))) 10 ([some (.ref (84 + 3 * i)), some (.int (nI m0)), some (.int (nI (fnM m0 k a))), some (.int (nI (k - fb_ct (bitS m0) a))), some (.int (nI a))]) ([]) (st) := by
    intro d
    induction d with
    | zero =>
      intro a ha ha1 hc
      refine g_ild4 eX6_firstNeeded_10 ?_
      refine g_ald0 eX6_firstNeeded_12 ?_
      refine g_getI (ci := 5) (j := 1) (by first | rfl | exact kd_key hi | exact kd_sh hi | exact kd_ya hi | exact kd_pr hq | exact kd_pk hq | exact kd_pf hq | exact kd_ps hq | exact kd_po hq | exact kd_pr hq2 | exact kd_pk hq2 | exact kd_pf hq2 | exact kd_ps hq2 | exact kd_po hq2) (by first | decide | (unfold N0; omega)) (Nat.le_of_ble_eq_true rfl) (Nat.le_of_ble_eq_true rfl) rfl fl_X6_13 eX6_firstNeeded_13 ?_
      rw [h1]
      refine g_icmp_gt eX6_firstNeeded_16 (fun hb => ?_) (fun hb => ?_)
      · refine g_ild2 eX6_firstNeeded_51 ?_
        refine g_iret rfl eX6_firstNeeded_52 ⟨_, rfl, ?_⟩
        try dsimp only
        refine ⟨rfl, ?_⟩
        have h9 := fnM_done (m := m0) (k := k) (a := a) (fun j hj q => by rw [bit_hi hm (by omega)] at q; exact absurd q.1 (by decide)) (7 - a)
        unfold first
        rw [← h9, show a + (7 - a) = 7 by omega]
      · exact absurd (nI_lt (a := n) (b := a) (by omega) (by omega)) hb
    | succ d ih =>
      intro a ha ha1 hc
      refine g_ild4 eX6_firstNeeded_10 ?_
      refine g_ald0 eX6_firstNeeded_12 ?_
      refine g_getI (ci := 5) (j := 1) (by first | rfl | exact kd_key hi | exact kd_sh hi | exact kd_ya hi | exact kd_pr hq | exact kd_pk hq | exact kd_pf hq | exact kd_ps hq | exact kd_po hq | exact kd_pr hq2 | exact kd_pk hq2 | exact kd_pf hq2 | exact kd_ps hq2 | exact kd_po hq2) (by first | decide | (unfold N0; omega)) (Nat.le_of_ble_eq_true rfl) (Nat.le_of_ble_eq_true rfl) rfl fl_X6_13 eX6_firstNeeded_13 ?_
      rw [h1]
      refine g_icmp_gt eX6_firstNeeded_16 (fun hb => ?_) (fun hb => ?_)
      · exact absurd hb (nI_nlt (by omega) (by omega))
      · refine g_ild3 eX6_firstNeeded_19 ?_
        refine g_if_le eX6_firstNeeded_20 (fun hb2 => ?_) (fun hb2 => ?_)
        · refine g_ild2 eX6_firstNeeded_51 ?_
          refine g_iret rfl eX6_firstNeeded_52 ⟨_, rfl, ?_⟩
          try dsimp only
          refine ⟨rfl, ?_⟩
          have hk0 : k ≤ fb_ct (bitS m0) a := by
            rw [fa_le, z32, nI_toInt (by omega)] at hb2
            omega
          have h9 := fnM_done (m := m0) (k := k) (a := a) (fun j hj q => by have := fb_ct_mono (bitS m0) hj; omega) (7 - a)
          unfold first
          rw [← h9, show a + (7 - a) = 7 by omega]
        · have hk0 : fb_ct (bitS m0) a < k := by
            rw [fa_le, z32, nI_toInt (by omega)] at hb2
            omega
          refine g_ald0 eX6_firstNeeded_23 ?_
          refine g_ild1 eX6_firstNeeded_24 ?_
          refine g_ild4 eX6_firstNeeded_25 ?_
          refine g_callVi (ci := 5) (m_holdsPart st hi m0 hm6 a (by omega)) (by first | rfl | exact kd_key hi | exact kd_sh hi | exact kd_ya hi | exact kd_pr hq | exact kd_pk hq | exact kd_pf hq | exact kd_ps hq | exact kd_po hq | exact kd_pr hq2 | exact kd_pk hq2 | exact kd_pf hq2 | exact kd_ps hq2 | exact kd_po hq2) (by first | decide | (unfold N0; omega)) (Nat.le_of_ble_eq_true rfl) rfl cv_X6_37 eX6_firstNeeded_27 ⟨Nat.le_of_ble_eq_true rfl, Nat.le_of_ble_eq_true rfl⟩ rfl rfl (Nat.le_of_ble_eq_true rfl) (fun r st h => ?_)
          obtain ⟨rfl, rfl⟩ := h
          have hstep := ih (a + 1) (by omega) (by omega)
          refine g_if_eq eX6_firstNeeded_30 (fun hb3 => ?_) (fun hb3 => ?_)
          · rw [b2_eq0] at hb3
            have hb4 : bitS m0 a = false := by cases h : bitS m0 a with | true => exact absurd h hb3 | false => rfl
            rw [fb_ct_succ, if_neg hb3, Nat.add_zero, show fnM m0 k (a + 1) = fnM m0 k a from by show fnM m0 k a + _ = _; rw [if_neg (fun q => hb3 q.1), Nat.add_zero]] at hstep
            refine g_inc4 rfl (Nat.le_of_ble_eq_true rfl) rfl eX6_firstNeeded_45 ?_
            refine g_goto eX6_firstNeeded_48 ?_
            rw [inc1]
            exact hstep hc
          · rw [b2_ne0] at hb3
            have hlt := (fnM_lt m0 hm6 k (by omega) a (by omega)).resolve_right (by omega)
            have hlt2 : fnM m0 k a < 64 := Nat.lt_of_lt_of_le hlt (Nat.le_trans (Nat.pow_le_pow_right (by decide) (show a - 1 ≤ 6 by omega)) (by decide))
            rw [fb_ct_succ, if_pos hb3, show fnM m0 k (a + 1) = fnM m0 k a + 2 ^ (a - 1) from by show fnM m0 k a + _ = _; rw [if_pos ⟨hb3, hk0⟩]] at hstep
            refine g_ild2 eX6_firstNeeded_33 ?_
            refine g_iconst (v := 1) (by decide) eX6_firstNeeded_34 ?_
            refine g_ild4 eX6_firstNeeded_35 ?_
            refine g_iconst (v := 1) (by decide) eX6_firstNeeded_37 ?_
            refine g_isub eX6_firstNeeded_38 ?_
            refine g_ishl eX6_firstNeeded_39 ?_
            refine g_ior eX6_firstNeeded_40 ?_
            rw [or_eq _ hlt2 a (by omega) ha1 hlt]
            refine g_ist2 rfl (Nat.le_of_ble_eq_true rfl) eX6_firstNeeded_41 ?_
            refine g_inc3 rfl (Nat.le_of_ble_eq_true rfl) rfl eX6_firstNeeded_42 ?_
            rw [show nI (k - fb_ct (bitS m0) a) + Int32.ofInt (-1) = nI (k - (fb_ct (bitS m0) a + 1)) by
              rw [show k - fb_ct (bitS m0) a = (k - (fb_ct (bitS m0) a + 1)) + 1 by omega, ← nI_1, Int32.add_assoc]
              exact Int32.add_zero _]
            refine g_inc4 rfl (Nat.le_of_ble_eq_true rfl) rfl eX6_firstNeeded_45 ?_
            refine g_goto eX6_firstNeeded_48 ?_
            rw [inc1]
            exact hstep (by omega)
  refine g_iconst (v := 0) (by decide) eX6_firstNeeded_0 ?_
  refine g_ist2 rfl (Nat.le_of_ble_eq_true rfl) eX6_firstNeeded_1 ?_
  refine g_ald0 eX6_firstNeeded_2 ?_
  refine g_getI (ci := 5) (j := 2) (by first | rfl | exact kd_key hi | exact kd_sh hi | exact kd_ya hi | exact kd_pr hq | exact kd_pk hq | exact kd_pf hq | exact kd_ps hq | exact kd_po hq | exact kd_pr hq2 | exact kd_pk hq2 | exact kd_pf hq2 | exact kd_ps hq2 | exact kd_po hq2) (by first | decide | (unfold N0; omega)) (Nat.le_of_ble_eq_true rfl) (Nat.le_of_ble_eq_true rfl) rfl fl_X6_17 eX6_firstNeeded_3 ?_
  rw [h3]
  refine g_ist3 rfl (Nat.le_of_ble_eq_true rfl) eX6_firstNeeded_6 ?_
  refine g_iconst (v := 1) (by decide) eX6_firstNeeded_7 ?_
  refine g_ist4 rfl (Nat.le_of_ble_eq_true rfl) eX6_firstNeeded_8 ?_
  have go := loop n 1 (by omega) (Nat.le_refl _) (Nat.zero_le _)
  exact go
theorem emod_addm (a b p : Int) : (a % p + b) % p = (a + b) % p := by rw [Int.add_emod, Int.emod_emod, ← Int.add_emod]
theorem pk_sub3 {x : Int32} {j : Nat} (hx : 0 ≤ x.toInt ∧ x.toInt ≤ 6) (hj : j < 7) : (x - nI j).toInt = x.toInt - (j : Int) := by
  rw [fb_subI (by rw [nI_toInt (by omega)]; omega) (by rw [nI_toInt (by omega)]; omega), nI_toInt (by omega)]
theorem m_weightAt (st : St) {i : Nat} (hi : i < 4) {n k : Nat} (hp : ptOK st i n k) (m0 : Nat) (hm : m0 < 2 ^ n) (a : Nat) (ha : a < 7) (x : Int32) (hx : 0 ≤ x.toInt ∧ x.toInt ≤ 6) : Mi l D cy 2 YX6_weightAt [.ref (84 + 3 * i), .int (nI m0), .int (nI a), .int x] st (fun r u => u = st ∧ r.toInt = wtF m0 a x.toInt) := by
  obtain ⟨h1, h2, h3, h4, h5⟩ := hp
  have hm6 : m0 < 64 := lt64 (by omega) hm
  have ea : (nI a).toInt = a := nI_toInt (by omega)
  have eP : (100003 : Int32).toInt = 100003 := rfl
  refine M.ofG [some (.ref (84 + 3 * i)), some (.int (nI m0)), some (.int (nI a)), some (.int x), none, none, none] (by decide) (Nat.le_of_ble_eq_true rfl) rfl ?_
  intro xp xe xs xm xa xb xme xc xad xA
  have loop : ∀ (d j : Nat) (z w : Int32), j + d = n + 1 → 1 ≤ j → z.toInt = prd m0 a x.toInt j % 100003 → w.toInt = prd m0 a (a : Int) j % 100003 → G xp l xe (rmd (2)) xs xm xa xb xme xc D cy xad xA (YX6_weightAt.2.1, YX6_weightAt.1.cls, YX6_weightAt.2.2.1, YX6_weightAt.2.2.2) (Pi (fun (r : Int32) (u : St) => u = st ∧ r.toInt = wtF m0 a x.toInt)) 9 ([some (.ref (84 + 3 * i)), some (.int (nI m0)), some (.int (nI a)), some (.int x), some (.int z), some (.int w), some (.int (nI j))]) ([]) (st) := by
    intro d
    induction d with
    | zero =>
      intro j z w hj hj1 hz hw
      have s1 := prd_stop (m := m0) (i := a) (x := x.toInt) (n := j) (fun y hy => bit_hi hm (by omega)) (7 - j)
      have s2 := prd_stop (m := m0) (i := a) (x := (a : Int)) (n := j) (fun y hy => bit_hi hm (by omega)) (7 - j)
      rw [show j + (7 - j) = 7 by omega] at s1 s2
      refine g_ild6 eX6_weightAt_9 ?_
      refine g_ald0 eX6_weightAt_11 ?_
      refine g_getI (ci := 5) (j := 1) (by first | rfl | exact kd_key hi | exact kd_sh hi | exact kd_ya hi | exact kd_pr hq | exact kd_pk hq | exact kd_pf hq | exact kd_ps hq | exact kd_po hq | exact kd_pr hq2 | exact kd_pk hq2 | exact kd_pf hq2 | exact kd_ps hq2 | exact kd_po hq2) (by first | decide | (unfold N0; omega)) (Nat.le_of_ble_eq_true rfl) (Nat.le_of_ble_eq_true rfl) rfl fl_X6_13 eX6_weightAt_12 ?_
      rw [h1]
      refine g_icmp_gt eX6_weightAt_15 (fun hb => ?_) (fun hb => ?_)
      · refine g_ild4 eX6_weightAt_72 ?_
        refine g_i2l eX6_weightAt_74 ?_
        refine g_ild5 eX6_weightAt_75 ?_
        refine g_ldc kc_X6_48 eX6_weightAt_77 ?_
        refine g_ldc kc_X6_26 eX6_weightAt_79 ?_
        refine g_callSi (m_power st w 100001 100003 (by decide) (by decide)) cs_X6_49 eX6_weightAt_81 ⟨Nat.le_of_ble_eq_true rfl, Nat.le_of_ble_eq_true rfl⟩ rfl rfl (Nat.le_of_ble_eq_true rfl) (fun r st h => ?_)
        obtain ⟨rfl, hr⟩ := h
        rw [show ((100001 : Int32).toInt.toNat) = 100001 from rfl, eP, ← invF_eq, hw, invF_mod, ← s2] at hr
        refine g_i2l eX6_weightAt_84 ?_
        refine g_lmul eX6_weightAt_85 ?_
        refine g_ldc kc_X6_26 eX6_weightAt_86 ?_
        refine g_callSi (m_rest st _ 100003 (by decide)) cs_X6_33 eX6_weightAt_88 ⟨Nat.le_of_ble_eq_true rfl, Nat.le_of_ble_eq_true rfl⟩ rfl rfl (Nat.le_of_ble_eq_true rfl) (fun r2 st h => ?_)
        obtain ⟨rfl, h⟩ := h
        refine g_iret rfl eX6_weightAt_91 ⟨_, rfl, ?_⟩
        try dsimp only
        refine ⟨rfl, ?_⟩
        rw [h, mulW, hz, hr, eP, emod_mul_mod, ← s1]
        rfl
      · exact absurd (nI_lt (a := n) (b := j) (by omega) (by omega)) hb
    | succ d ih =>
      intro j z w hj hj1 hz hw
      refine g_ild6 eX6_weightAt_9 ?_
      refine g_ald0 eX6_weightAt_11 ?_
      refine g_getI (ci := 5) (j := 1) (by first | rfl | exact kd_key hi | exact kd_sh hi | exact kd_ya hi | exact kd_pr hq | exact kd_pk hq | exact kd_pf hq | exact kd_ps hq | exact kd_po hq | exact kd_pr hq2 | exact kd_pk hq2 | exact kd_pf hq2 | exact kd_ps hq2 | exact kd_po hq2) (by first | decide | (unfold N0; omega)) (Nat.le_of_ble_eq_true rfl) (Nat.le_of_ble_eq_true rfl) rfl fl_X6_13 eX6_weightAt_12 ?_
      rw [h1]
      refine g_icmp_gt eX6_weightAt_15 (fun hb => ?_) (fun hb => ?_)
      · exact absurd hb (nI_nlt (by omega) (by omega))
      · refine g_ild6 eX6_weightAt_18 ?_
        refine g_ild2 eX6_weightAt_20 ?_
        refine g_icmp_eq eX6_weightAt_21 (fun hb2 => ?_) (fun hb2 => ?_)
        · rw [nI_eq (by omega) (by omega)] at hb2
          refine g_inc6 rfl (Nat.le_of_ble_eq_true rfl) rfl eX6_weightAt_66 ?_
          refine g_goto eX6_weightAt_69 ?_
          rw [inc1]
          refine ih (j + 1) z w (by omega) (by omega) ?_ ?_
          · rw [prd_succ, if_neg (fun q => q.2 hb2), Int.mul_one, hz]
          · rw [prd_succ, if_neg (fun q => q.2 hb2), Int.mul_one, hw]
        · rw [nI_eq (by omega) (by omega)] at hb2
          refine g_ald0 eX6_weightAt_24 ?_
          refine g_ild1 eX6_weightAt_25 ?_
          refine g_ild6 eX6_weightAt_26 ?_
          refine g_callVi (ci := 5) (m_holdsPart st hi m0 hm6 j (by omega)) (by first | rfl | exact kd_key hi | exact kd_sh hi | exact kd_ya hi | exact kd_pr hq | exact kd_pk hq | exact kd_pf hq | exact kd_ps hq | exact kd_po hq | exact kd_pr hq2 | exact kd_pk hq2 | exact kd_pf hq2 | exact kd_ps hq2 | exact kd_po hq2) (by first | decide | (unfold N0; omega)) (Nat.le_of_ble_eq_true rfl) rfl cv_X6_37 eX6_weightAt_28 ⟨Nat.le_of_ble_eq_true rfl, Nat.le_of_ble_eq_true rfl⟩ rfl rfl (Nat.le_of_ble_eq_true rfl) (fun r st h => ?_)
          obtain ⟨rfl, rfl⟩ := h
          refine g_if_eq eX6_weightAt_31 (fun hb3 => ?_) (fun hb3 => ?_)
          · rw [b2_eq0] at hb3
            refine g_inc6 rfl (Nat.le_of_ble_eq_true rfl) rfl eX6_weightAt_66 ?_
            refine g_goto eX6_weightAt_69 ?_
            rw [inc1]
            refine ih (j + 1) z w (by omega) (by omega) ?_ ?_
            · rw [prd_succ, if_neg (fun q => hb3 q.1), Int.mul_one, hz]
            · rw [prd_succ, if_neg (fun q => hb3 q.1), Int.mul_one, hw]
          · rw [b2_ne0] at hb3
            refine g_ild4 eX6_weightAt_34 ?_
            refine g_i2l eX6_weightAt_36 ?_
            refine g_ild3 eX6_weightAt_37 ?_
            refine g_ild6 eX6_weightAt_38 ?_
            refine g_isub eX6_weightAt_40 ?_
            refine g_i2l eX6_weightAt_41 ?_
            refine g_lmul eX6_weightAt_42 ?_
            refine g_ldc kc_X6_26 eX6_weightAt_43 ?_
            refine g_callSi (m_rest st _ 100003 (by decide)) cs_X6_33 eX6_weightAt_45 ⟨Nat.le_of_ble_eq_true rfl, Nat.le_of_ble_eq_true rfl⟩ rfl rfl (Nat.le_of_ble_eq_true rfl) (fun r2 st h => ?_)
            obtain ⟨rfl, hr2⟩ := h
            refine g_ist4 rfl (Nat.le_of_ble_eq_true rfl) eX6_weightAt_48 ?_
            refine g_ild5 eX6_weightAt_50 ?_
            refine g_i2l eX6_weightAt_52 ?_
            refine g_ild2 eX6_weightAt_53 ?_
            refine g_ild6 eX6_weightAt_54 ?_
            refine g_isub eX6_weightAt_56 ?_
            refine g_i2l eX6_weightAt_57 ?_
            refine g_lmul eX6_weightAt_58 ?_
            refine g_ldc kc_X6_26 eX6_weightAt_59 ?_
            refine g_callSi (m_rest st _ 100003 (by decide)) cs_X6_33 eX6_weightAt_61 ⟨Nat.le_of_ble_eq_true rfl, Nat.le_of_ble_eq_true rfl⟩ rfl rfl (Nat.le_of_ble_eq_true rfl) (fun r3 st h => ?_)
            obtain ⟨rfl, hr3⟩ := h
            refine g_ist5 rfl (Nat.le_of_ble_eq_true rfl) eX6_weightAt_64 ?_
            refine g_inc6 rfl (Nat.le_of_ble_eq_true rfl) rfl eX6_weightAt_66 ?_
            refine g_goto eX6_weightAt_69 ?_
            rw [inc1]
            rw [mulW, pk_sub3 hx (by omega), hz, eP, emod_mul_mod] at hr2
            rw [mulW, pk_sub3 (by rw [ea]; omega) (by omega), hw, ea, eP, emod_mul_mod] at hr3
            refine ih (j + 1) r2 r3 (by omega) (by omega) ?_ ?_
            · rw [prd_succ, if_pos ⟨hb3, hb2⟩, hr2]
            · rw [prd_succ, if_pos ⟨hb3, hb2⟩, hr3]
  refine g_iconst (v := 1) (by decide) eX6_weightAt_0 ?_
  refine g_ist4 rfl (Nat.le_of_ble_eq_true rfl) eX6_weightAt_1 ?_
  refine g_iconst (v := 1) (by decide) eX6_weightAt_3 ?_
  refine g_ist5 rfl (Nat.le_of_ble_eq_true rfl) eX6_weightAt_4 ?_
  refine g_iconst (v := 1) (by decide) eX6_weightAt_6 ?_
  refine g_ist6 rfl (Nat.le_of_ble_eq_true rfl) eX6_weightAt_7 ?_
  exact loop n 1 1 1 (by omega) (Nat.le_refl _) rfl rfl
theorem first_lt {m n k : Nat} (hn : n < 7) (hk : k < 7) (hm : m < 2 ^ n) : first m k < 2 ^ n := by
  have h6 := lt64 hn hm
  have key : ∀ n, n < 7 → ∀ m, m < 2 ^ n → ∀ k, k < 7 → first m k < 2 ^ n := by decide +kernel
  exact key n hn m hm k hk
theorem m_valueAt (st : St) {i : Nat} (hi : i < 4) {n k : Nat} (hp : ptOK st i n k) (m0 : Nat) (hm : m0 < 2 ^ n) (x : Int32) (hx : 0 ≤ x.toInt ∧ x.toInt ≤ 6) : Mi l D cy 3 YX6_valueAt [.ref (84 + 3 * i), .int (nI m0), .int x] st (fun r u => u = st ∧ r.toInt = vaF (first m0 k) (ptY st i) x.toInt) := by
  have hp9 := hp
  obtain ⟨h1, h2, h3, h4, h5⟩ := hp
  have hf := first_lt (by omega) (by omega) hm (k := k)
  have hf6 := lt64 (by omega) hf
  have eP : (100003 : Int32).toInt = 100003 := rfl
  have hln := ln_ya hi
  refine M.ofG [some (.ref (84 + 3 * i)), some (.int (nI m0)), some (.int x), none, none, none, none] (by decide) (Nat.le_of_ble_eq_true rfl) rfl ?_
  intro xp xe xs xm xa xb xme xc xad xA
  have loop : ∀ (d j : Nat) (z : Int64), j + d = n + 1 → 1 ≤ j → z.toInt = vaS (first m0 k) (ptY st i) x.toInt j % 100003 → G xp l xe (rmd (3)) xs xm xa xb xme xc D cy xad xA (YX6_valueAt.2.1, YX6_valueAt.1.cls, YX6_valueAt.2.2.1, YX6_valueAt.2.2.2) (Pi (fun (r : Int32) (u : St) => u = st ∧ r.toInt = vaF (first m0 k) (ptY st i) x.toInt)) 12 ([some (.ref (84 + 3 * i)), some (.int (nI m0)), some (.int x), some (.int (nI (first m0 k))), some (.long z), none, some (.int (nI j))]) ([]) (st) := by
    intro d
    induction d with
    | zero =>
      intro j z hj hj1 hz
      have s1 := vaS_stop (m := first m0 k) (y := ptY st i) (x := x.toInt) (n := j) (fun y hy => bit_hi hf (by omega)) (7 - j)
      rw [show j + (7 - j) = 7 by omega] at s1
      refine g_ild6 eX6_valueAt_12 ?_
      refine g_ald0 eX6_valueAt_14 ?_
      refine g_getI (ci := 5) (j := 1) (by first | rfl | exact kd_key hi | exact kd_sh hi | exact kd_ya hi | exact kd_pr hq | exact kd_pk hq | exact kd_pf hq | exact kd_ps hq | exact kd_po hq | exact kd_pr hq2 | exact kd_pk hq2 | exact kd_pf hq2 | exact kd_ps hq2 | exact kd_po hq2) (by first | decide | (unfold N0; omega)) (Nat.le_of_ble_eq_true rfl) (Nat.le_of_ble_eq_true rfl) rfl fl_X6_13 eX6_valueAt_15 ?_
      rw [h1]
      refine g_icmp_gt eX6_valueAt_18 (fun hb => ?_) (fun hb => ?_)
      · refine g_lld4 eX6_valueAt_70 ?_
        refine g_l2i eX6_valueAt_72 ?_
        refine g_iret rfl eX6_valueAt_73 ⟨_, rfl, ?_⟩
        try dsimp only
        refine ⟨rfl, ?_⟩
        have hr := vaF_rng (first m0 k) (ptY st i) x.toInt
        have hz2 : z.toInt = vaF (first m0 k) (ptY st i) x.toInt := by rw [hz, ← s1]; rfl
        rw [l2i (by omega) (by omega), hz2]
      · exact absurd (nI_lt (a := n) (b := j) (by omega) (by omega)) hb
    | succ d ih =>
      intro j z hj hj1 hz
      have hca : (nI j).toNatClampNeg = j := nI_clamp (by omega)
      refine g_ild6 eX6_valueAt_12 ?_
      refine g_ald0 eX6_valueAt_14 ?_
      refine g_getI (ci := 5) (j := 1) (by first | rfl | exact kd_key hi | exact kd_sh hi | exact kd_ya hi | exact kd_pr hq | exact kd_pk hq | exact kd_pf hq | exact kd_ps hq | exact kd_po hq | exact kd_pr hq2 | exact kd_pk hq2 | exact kd_pf hq2 | exact kd_ps hq2 | exact kd_po hq2) (by first | decide | (unfold N0; omega)) (Nat.le_of_ble_eq_true rfl) (Nat.le_of_ble_eq_true rfl) rfl fl_X6_13 eX6_valueAt_15 ?_
      rw [h1]
      refine g_icmp_gt eX6_valueAt_18 (fun hb => ?_) (fun hb => ?_)
      · exact absurd hb (nI_nlt (by omega) (by omega))
      · refine g_ald0 eX6_valueAt_21 ?_
        refine g_ild3 eX6_valueAt_22 ?_
        refine g_ild6 eX6_valueAt_23 ?_
        refine g_callVi (ci := 5) (m_holdsPart st hi (first m0 k) hf6 j (by omega)) (by first | rfl | exact kd_key hi | exact kd_sh hi | exact kd_ya hi | exact kd_pr hq | exact kd_pk hq | exact kd_pf hq | exact kd_ps hq | exact kd_po hq | exact kd_pr hq2 | exact kd_pk hq2 | exact kd_pf hq2 | exact kd_ps hq2 | exact kd_po hq2) (by first | decide | (unfold N0; omega)) (Nat.le_of_ble_eq_true rfl) rfl cv_X6_37 eX6_valueAt_25 ⟨Nat.le_of_ble_eq_true rfl, Nat.le_of_ble_eq_true rfl⟩ rfl rfl (Nat.le_of_ble_eq_true rfl) (fun r st h => ?_)
        obtain ⟨rfl, rfl⟩ := h
        have hvs : vaS (first m0 k) (ptY st i) x.toInt (j + 1) = vaS (first m0 k) (ptY st i) x.toInt j + (if bitS (first m0 k) j = true then ptY st i j * wtF (first m0 k) j x.toInt else 0) := rfl
        refine g_if_eq eX6_valueAt_28 (fun hb3 => ?_) (fun hb3 => ?_)
        · rw [b2_eq0] at hb3
          refine g_inc6 rfl (Nat.le_of_ble_eq_true rfl) rfl eX6_valueAt_64 ?_
          refine g_goto eX6_valueAt_67 ?_
          rw [inc1]
          refine ih (j + 1) z (by omega) (by omega) ?_
          rw [hvs, if_neg hb3, Int.add_zero, hz]
        · rw [b2_ne0] at hb3
          refine g_lld4 eX6_valueAt_31 ?_
          refine g_ald0 eX6_valueAt_33 ?_
          refine g_getR (ci := 5) (j := 0) (by first | rfl | exact kd_key hi | exact kd_sh hi | exact kd_ya hi | exact kd_pr hq | exact kd_pk hq | exact kd_pf hq | exact kd_ps hq | exact kd_po hq | exact kd_pr hq2 | exact kd_pk hq2 | exact kd_pf hq2 | exact kd_ps hq2 | exact kd_po hq2) (by first | decide | (unfold N0; omega)) (Nat.le_of_ble_eq_true rfl) (Nat.le_of_ble_eq_true rfl) rfl (by first | rfl | exact r_key4 hi | exact r_sh0 hi | exact r_p0 hq | exact r_p1 hq | exact r_p2 hq | exact r_p3 hq | exact r_p0 hq2 | exact r_p1 hq2 | exact r_p2 hq2 | exact r_p3 hq2) fl_X6_9 eX6_valueAt_34 ?_
          refine g_ild6 eX6_valueAt_37 ?_
          refine g_iald (by first | rfl | exact kd_key hi | exact kd_sh hi | exact kd_ya hi | exact kd_pr hq | exact kd_pk hq | exact kd_pf hq | exact kd_ps hq | exact kd_po hq | exact kd_pr hq2 | exact kd_pk hq2 | exact kd_pf hq2 | exact kd_ps hq2 | exact kd_po hq2) (by first | decide | (unfold N0; omega)) (by rw [hln]; exact vp_in_nI (n := j) (N := 7) (by omega) (by decide)) eX6_valueAt_39 ?_
          refine g_i2l eX6_valueAt_40 ?_
          refine g_ald0 eX6_valueAt_41 ?_
          refine g_ild3 eX6_valueAt_42 ?_
          refine g_ild6 eX6_valueAt_43 ?_
          refine g_ild2 eX6_valueAt_45 ?_
          rw [hca]
          refine g_callVi (ci := 5) (m_weightAt st hi hp9 (first m0 k) hf j (by omega) x hx) (by first | rfl | exact kd_key hi | exact kd_sh hi | exact kd_ya hi | exact kd_pr hq | exact kd_pk hq | exact kd_pf hq | exact kd_ps hq | exact kd_po hq | exact kd_pr hq2 | exact kd_pk hq2 | exact kd_pf hq2 | exact kd_ps hq2 | exact kd_po hq2) (by first | decide | (unfold N0; omega)) (Nat.le_of_ble_eq_true rfl) rfl cv_X6_45 eX6_valueAt_46 ⟨Nat.le_of_ble_eq_true rfl, Nat.le_of_ble_eq_true rfl⟩ rfl rfl (Nat.le_of_ble_eq_true rfl) (fun w st h => ?_)
          obtain ⟨rfl, hw⟩ := h
          have hy := h5 j hj1 (by omega)
          have hwr : 0 ≤ wtF (first m0 k) j x.toInt ∧ wtF (first m0 k) j x.toInt < 100003 := ⟨Int.emod_nonneg _ (by decide), Int.emod_lt_of_pos _ (by decide)⟩
          have hzr : 0 ≤ z.toInt ∧ z.toInt < 100003 := by rw [hz]; exact ⟨Int.emod_nonneg _ (by decide), Int.emod_lt_of_pos _ (by decide)⟩
          have hm1 := mulW (st.1 (85 + 3 * i) j) w
          rw [hw] at hm1
          have hb8 := mul_rng8 (a := (st.1 (85 + 3 * i) j).toInt) (b := wtF (first m0 k) j x.toInt) (by omega) (by omega)
          have hadd : (z + (st.1 (85 + 3 * i) j).toInt64 * w.toInt64).toInt = z.toInt + (st.1 (85 + 3 * i) j).toInt * wtF (first m0 k) j x.toInt := by
            rw [fb_addL (by rw [hm1]; omega) (by rw [hm1]; omega), hm1]
          refine g_i2l eX6_valueAt_49 ?_
          refine g_lmul eX6_valueAt_50 ?_
          refine g_ladd eX6_valueAt_51 ?_
          refine g_lst4 rfl (Nat.le_of_ble_eq_true rfl) eX6_valueAt_52 ?_
          refine g_lld4 eX6_valueAt_54 ?_
          refine g_ldc kc_X6_26 eX6_valueAt_56 ?_
          refine g_callSi (m_rest st _ 100003 (by decide)) cs_X6_33 eX6_valueAt_58 ⟨Nat.le_of_ble_eq_true rfl, Nat.le_of_ble_eq_true rfl⟩ rfl rfl (Nat.le_of_ble_eq_true rfl) (fun r2 st h => ?_)
          obtain ⟨rfl, hr2⟩ := h
          rw [hadd, eP, hz, emod_addm] at hr2
          refine g_i2l eX6_valueAt_61 ?_
          refine g_lst4 rfl (Nat.le_of_ble_eq_true rfl) eX6_valueAt_62 ?_
          refine g_inc6 rfl (Nat.le_of_ble_eq_true rfl) rfl eX6_valueAt_64 ?_
          refine g_goto eX6_valueAt_67 ?_
          rw [inc1]
          refine ih (j + 1) _ (by omega) (by omega) ?_
          rw [tl, hr2, hvs, if_pos hb3]
          rfl
  refine g_ald0 eX6_valueAt_0 ?_
  refine g_ild1 eX6_valueAt_1 ?_
  refine g_callVi (ci := 5) (m_firstNeeded st hi hp9 m0 hm) (by first | rfl | exact kd_key hi | exact kd_sh hi | exact kd_ya hi | exact kd_pr hq | exact kd_pk hq | exact kd_pf hq | exact kd_ps hq | exact kd_po hq | exact kd_pr hq2 | exact kd_pk hq2 | exact kd_pf hq2 | exact kd_ps hq2 | exact kd_po hq2) (by first | decide | (unfold N0; omega)) (Nat.le_of_ble_eq_true rfl) rfl cv_X6_41 eX6_valueAt_2 ⟨Nat.le_of_ble_eq_true rfl, Nat.le_of_ble_eq_true rfl⟩ rfl rfl (Nat.le_of_ble_eq_true rfl) (fun r st h => ?_)
  obtain ⟨rfl, rfl⟩ := h
  refine g_ist3 rfl (Nat.le_of_ble_eq_true rfl) eX6_valueAt_5 ?_
  refine g_lconst (v := 0) rfl eX6_valueAt_6 ?_
  refine g_lst4 rfl (Nat.le_of_ble_eq_true rfl) eX6_valueAt_7 ?_
  refine g_iconst (v := 1) (by decide) eX6_valueAt_9 ?_
  refine g_ist6 rfl (Nat.le_of_ble_eq_true rfl) eX6_valueAt_10 ?_
  exact loop n 1 0 (by omega) (Nat.le_refl _) rfl
end PARTD
