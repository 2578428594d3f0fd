/-! Parts: the class, what lies on one, dealing -/
section PARTE
variable {l : Launch} {D : va_G} {cy : Nat → ClassId}
theorem m_lieOnOne (st : St) {i : Nat} (hi : i < 4) {n k : Nat} (hp : ptOK st i n k) (m0 : Nat) (hm : m0 < 2 ^ n) : Mi l D cy 4 YX6_lieOnOne [.ref (84 + 3 * i), .int (nI m0)] st (fun r u => u = st ∧ ((r = 1 ∧ lies m0 k (ptY st i)) ∨ (r = 0 ∧ ¬ lies m0 k (ptY st i)))) := by
  have hp9 := hp
  obtain ⟨h1, h2, h3, h4, h5⟩ := hp
  have hm6 : m0 < 64 := lt64 (by omega) hm
  have hln := ln_ya hi
  refine M.ofG [some (.ref (84 + 3 * i)), some (.int (nI m0)), none] (by decide) (Nat.le_of_ble_eq_true rfl) rfl ?_
  intro xp xe xs xm xa xb xme xc xad xA
  have loop : ∀ (d j : Nat), j + d = n + 1 → 1 ≤ j → (∀ a, a < j → bitS m0 a = true → vaF (first m0 k) (ptY st i) a = ptY st i a) → G xp l xe (rmd (4)) xs xm xa xb xme xc D cy xad xA (YX6_lieOnOne.2.1, YX6_lieOnOne.1.cls, YX6_lieOnOne.2.2.1, YX6_lieOnOne.2.2.2) (Pi (fun (r : Int32) (u : St) => u = st ∧ ((r = 1 ∧ lies m0 k (ptY st i)) ∨ (r = 0 ∧ ¬ lies m0 k (ptY st i))))) 2 ([some (.ref (84 + 3 * i)), some (.int (nI m0)), some (.int (nI j))]) ([]) (st) := by
    intro d
    induction d with
    | zero =>
      intro j hj hj1 hall
      refine g_ild2 eX6_lieOnOne_2 ?_
      refine g_ald0 eX6_lieOnOne_3 ?_
      refine g_getI (ci := 5) (j := 1) (by first | rfl | exact kd_key hi | exact kd_sh hi | exact kd_ya hi | exact kd_pr hq | exact kd_pk hq | exact kd_pf hq | exact kd_ps hq | exact kd_po hq | exact kd_pr hq2 | exact kd_pk hq2 | exact kd_pf hq2 | exact kd_ps hq2 | exact kd_po hq2) (by first | decide | (unfold N0; omega)) (Nat.le_of_ble_eq_true rfl) (Nat.le_of_ble_eq_true rfl) rfl fl_X6_13 eX6_lieOnOne_4 ?_
      rw [h1]
      refine g_icmp_gt eX6_lieOnOne_7 (fun hb => ?_) (fun hb => ?_)
      · refine g_iconst (v := 1) (by decide) eX6_lieOnOne_42 ?_
        refine g_zret (ty := .boolean) rfl (by first | rfl | assumption) eX6_lieOnOne_43 ⟨_, rfl, ?_⟩
        try dsimp only
        refine ⟨rfl, Or.inl ⟨rfl, fun a ha hb => ?_⟩⟩
        by_cases haj : a < j
        · exact hall a haj hb
        · rw [bit_hi hm (by omega)] at hb
          exact absurd hb (by decide)
      · exact absurd (nI_lt (a := n) (b := j) (by omega) (by omega)) hb
    | succ d ih =>
      intro j hj hj1 hall
      have hca : (nI j).toNatClampNeg = j := nI_clamp (by omega)
      have ej : (nI j).toInt = j := nI_toInt (by omega)
      refine g_ild2 eX6_lieOnOne_2 ?_
      refine g_ald0 eX6_lieOnOne_3 ?_
      refine g_getI (ci := 5) (j := 1) (by first | rfl | exact kd_key hi | exact kd_sh hi | exact kd_ya hi | exact kd_pr hq | exact kd_pk hq | exact kd_pf hq | exact kd_ps hq | exact kd_po hq | exact kd_pr hq2 | exact kd_pk hq2 | exact kd_pf hq2 | exact kd_ps hq2 | exact kd_po hq2) (by first | decide | (unfold N0; omega)) (Nat.le_of_ble_eq_true rfl) (Nat.le_of_ble_eq_true rfl) rfl fl_X6_13 eX6_lieOnOne_4 ?_
      rw [h1]
      refine g_icmp_gt eX6_lieOnOne_7 (fun hb => ?_) (fun hb => ?_)
      · exact absurd hb (nI_nlt (by omega) (by omega))
      · refine g_ald0 eX6_lieOnOne_10 ?_
        refine g_ild1 eX6_lieOnOne_11 ?_
        refine g_ild2 eX6_lieOnOne_12 ?_
        refine g_callVi (ci := 5) (m_holdsPart st hi m0 hm6 j (by omega)) (by first | rfl | exact kd_key hi | exact kd_sh hi | exact kd_ya hi | exact kd_pr hq | exact kd_pk hq | exact kd_pf hq | exact kd_ps hq | exact kd_po hq | exact kd_pr hq2 | exact kd_pk hq2 | exact kd_pf hq2 | exact kd_ps hq2 | exact kd_po hq2) (by first | decide | (unfold N0; omega)) (Nat.le_of_ble_eq_true rfl) rfl cv_X6_37 eX6_lieOnOne_13 ⟨Nat.le_of_ble_eq_true rfl, Nat.le_of_ble_eq_true rfl⟩ rfl rfl (Nat.le_of_ble_eq_true rfl) (fun r st h => ?_)
        obtain ⟨rfl, rfl⟩ := h
        refine g_if_eq eX6_lieOnOne_16 (fun hb3 => ?_) (fun hb3 => ?_)
        · rw [b2_eq0] at hb3
          refine g_inc2 rfl (Nat.le_of_ble_eq_true rfl) rfl eX6_lieOnOne_36 ?_
          refine g_goto eX6_lieOnOne_39 ?_
          rw [inc1]
          refine ih (j + 1) (by omega) (by omega) (fun a ha hb => ?_)
          by_cases haj : a = j
          · rw [haj] at hb; exact absurd hb hb3
          · exact hall a (by omega) hb
        · rw [b2_ne0] at hb3
          refine g_ald0 eX6_lieOnOne_19 ?_
          refine g_ild1 eX6_lieOnOne_20 ?_
          refine g_ild2 eX6_lieOnOne_21 ?_
          refine g_callVi (ci := 5) (m_valueAt st hi hp9 m0 hm (nI j) (by rw [ej]; omega)) (by first | rfl | exact kd_key hi | exact kd_sh hi | exact kd_ya hi | exact kd_pr hq | exact kd_pk hq | exact kd_pf hq | exact kd_ps hq | exact kd_po hq | exact kd_pr hq2 | exact kd_pk hq2 | exact kd_pf hq2 | exact kd_ps hq2 | exact kd_po hq2) (by first | decide | (unfold N0; omega)) (Nat.le_of_ble_eq_true rfl) rfl cv_X6_52 eX6_lieOnOne_22 ⟨Nat.le_of_ble_eq_true rfl, Nat.le_of_ble_eq_true rfl⟩ rfl rfl (Nat.le_of_ble_eq_true rfl) (fun z st h => ?_)
          obtain ⟨rfl, hz⟩ := h
          rw [ej] at hz
          refine g_ald0 eX6_lieOnOne_25 ?_
          refine g_getR (ci := 5) (j := 0) (by first | rfl | exact kd_key hi | exact kd_sh hi | exact kd_ya hi | exact kd_pr hq | exact kd_pk hq | exact kd_pf hq | exact kd_ps hq | exact kd_po hq | exact kd_pr hq2 | exact kd_pk hq2 | exact kd_pf hq2 | exact kd_ps hq2 | exact kd_po hq2) (by first | decide | (unfold N0; omega)) (Nat.le_of_ble_eq_true rfl) (Nat.le_of_ble_eq_true rfl) rfl (by first | rfl | exact r_key4 hi | exact r_sh0 hi | exact r_p0 hq | exact r_p1 hq | exact r_p2 hq | exact r_p3 hq | exact r_p0 hq2 | exact r_p1 hq2 | exact r_p2 hq2 | exact r_p3 hq2) fl_X6_9 eX6_lieOnOne_26 ?_
          refine g_ild2 eX6_lieOnOne_29 ?_
          refine g_iald (by first | rfl | exact kd_key hi | exact kd_sh hi | exact kd_ya hi | exact kd_pr hq | exact kd_pk hq | exact kd_pf hq | exact kd_ps hq | exact kd_po hq | exact kd_pr hq2 | exact kd_pk hq2 | exact kd_pf hq2 | exact kd_ps hq2 | exact kd_po hq2) (by first | decide | (unfold N0; omega)) (by rw [hln]; exact vp_in_nI (n := j) (N := 7) (by omega) (by decide)) eX6_lieOnOne_30 ?_
          rw [hca]
          refine g_icmp_eq eX6_lieOnOne_31 (fun hb4 => ?_) (fun hb4 => ?_)
          · rw [fa_eq, hz] at hb4
            refine g_inc2 rfl (Nat.le_of_ble_eq_true rfl) rfl eX6_lieOnOne_36 ?_
            refine g_goto eX6_lieOnOne_39 ?_
            rw [inc1]
            refine ih (j + 1) (by omega) (by omega) (fun a ha hb => ?_)
            by_cases haj : a = j
            · rw [haj]; exact hb4
            · exact hall a (by omega) hb
          · rw [fa_eq, hz] at hb4
            refine g_iconst (v := 0) (by decide) eX6_lieOnOne_34 ?_
            refine g_zret (ty := .boolean) rfl (by first | rfl | assumption) eX6_lieOnOne_35 ⟨_, rfl, ?_⟩
            try dsimp only
            exact ⟨rfl, Or.inr ⟨rfl, fun h => hb4 (h j (by omega) hb3)⟩⟩
  refine g_iconst (v := 1) (by decide) eX6_lieOnOne_0 ?_
  refine g_ist2 rfl (Nat.le_of_ble_eq_true rfl) eX6_lieOnOne_1 ?_
  exact loop n 1 (by omega) (Nat.le_refl _) (fun a ha hb => by have := bit_ge hb; omega)
theorem m_wrongOne (st : St) {i : Nat} (hi : i < 4) {n k : Nat} (hp : ptOK st i n k) (hk1 : 1 ≤ k) : Mi l D cy 5 YX6_wrongOne [.ref (84 + 3 * i)] st (fun r u => u = st ∧ whoR n k (ptY st i) r.toInt) := by
  have hp9 := hp
  obtain ⟨h1, h2, h3, h4, h5⟩ := hp
  have w0 := wo_bits n (by omega) 0 (by decide) (Nat.zero_le _)
  have e0 : without n 0 = 2 ^ n - 1 := by unfold without; rw [if_neg (by omega)]; rfl
  refine M.ofG [some (.ref (84 + 3 * i)), none] (by decide) (Nat.le_of_ble_eq_true rfl) rfl ?_
  intro xp xe xs xm xa xb xme xc xad xA
  refine g_ald0 eX6_wrongOne_0 ?_
  refine g_ald0 eX6_wrongOne_1 ?_
  refine g_callVi (ci := 5) (m_all st hi n h1 (by omega)) (by first | rfl | exact kd_key hi | exact kd_sh hi | exact kd_ya hi | exact kd_pr hq | exact kd_pk hq | exact kd_pf hq | exact kd_ps hq | exact kd_po hq | exact kd_pr hq2 | exact kd_pk hq2 | exact kd_pf hq2 | exact kd_ps hq2 | exact kd_po hq2) (by first | decide | (unfold N0; omega)) (Nat.le_of_ble_eq_true rfl) rfl cv_X6_55 eX6_wrongOne_2 ⟨Nat.le_of_ble_eq_true rfl, Nat.le_of_ble_eq_true rfl⟩ rfl rfl (Nat.le_of_ble_eq_true rfl) (fun r st h => ?_)
  obtain ⟨rfl, rfl⟩ := h
  rw [← e0]
  refine g_callVi (ci := 5) (m_lieOnOne st hi hp9 (without n 0) w0.1) (by first | rfl | exact kd_key hi | exact kd_sh hi | exact kd_ya hi | exact kd_pr hq | exact kd_pk hq | exact kd_pf hq | exact kd_ps hq | exact kd_po hq | exact kd_pr hq2 | exact kd_pk hq2 | exact kd_pf hq2 | exact kd_ps hq2 | exact kd_po hq2) (by first | decide | (unfold N0; omega)) (Nat.le_of_ble_eq_true rfl) rfl cv_X6_59 eX6_wrongOne_5 ⟨Nat.le_of_ble_eq_true rfl, Nat.le_of_ble_eq_true rfl⟩ rfl rfl (Nat.le_of_ble_eq_true rfl) (fun r st h => ?_)
  obtain ⟨rfl, h⟩ := h
  rcases h with ⟨rfl, hL⟩ | ⟨rfl, hL⟩
  · refine g_if_eq eX6_wrongOne_8 (fun hb => ?_) (fun hb => ?_)
    · exact absurd hb (by decide)
    · refine g_iconst (v := 0) (by decide) eX6_wrongOne_11 ?_
      refine g_iret rfl eX6_wrongOne_12 ⟨_, rfl, ?_⟩
      try dsimp only
      exact ⟨rfl, fun _ => rfl, fun h => absurd hL h, fun h => absurd hL h⟩
  · refine g_if_eq eX6_wrongOne_8 (fun hb => ?_) (fun hb => ?_)
    · refine g_ald0 eX6_wrongOne_13 ?_
      refine g_getI (ci := 5) (j := 1) (by first | rfl | exact kd_key hi | exact kd_sh hi | exact kd_ya hi | exact kd_pr hq | exact kd_pk hq | exact kd_pf hq | exact kd_ps hq | exact kd_po hq | exact kd_pr hq2 | exact kd_pk hq2 | exact kd_pf hq2 | exact kd_ps hq2 | exact kd_po hq2) (by first | decide | (unfold N0; omega)) (Nat.le_of_ble_eq_true rfl) (Nat.le_of_ble_eq_true rfl) rfl fl_X6_13 eX6_wrongOne_14 ?_
      refine g_ald0 eX6_wrongOne_17 ?_
      refine g_getI (ci := 5) (j := 2) (by first | rfl | exact kd_key hi | exact kd_sh hi | exact kd_ya hi | exact kd_pr hq | exact kd_pk hq | exact kd_pf hq | exact kd_ps hq | exact kd_po hq | exact kd_pr hq2 | exact kd_pk hq2 | exact kd_pf hq2 | exact kd_ps hq2 | exact kd_po hq2) (by first | decide | (unfold N0; omega)) (Nat.le_of_ble_eq_true rfl) (Nat.le_of_ble_eq_true rfl) rfl fl_X6_17 eX6_wrongOne_18 ?_
      rw [h1, h3]
      refine g_iconst (v := 2) (by decide) eX6_wrongOne_21 ?_
      refine g_iadd eX6_wrongOne_22 ?_
      rw [show nI k + 2 = nI (k + 2) from nI_add k 2]
      refine g_icmp_ge eX6_wrongOne_23 (fun hb2 => ?_) (fun hb2 => ?_)
      · rw [nI_leI (by omega) (by omega)] at hb2
        refine g_iconst (v := 1) (by decide) eX6_wrongOne_29 ?_
        refine g_ist1 rfl (Nat.le_of_ble_eq_true rfl) eX6_wrongOne_30 ?_
        have loop : ∀ (d j : Nat), j + d = n + 1 → 1 ≤ j → (∀ a, 1 ≤ a → a < j → ¬ lies (without n a) k (ptY st i)) → G xp l xe (rmd (5)) xs xm xa xb xme xc D cy xad xA (YX6_wrongOne.2.1, YX6_wrongOne.1.cls, YX6_wrongOne.2.2.1, YX6_wrongOne.2.2.2) (Pi (fun (r : Int32) (u : St) => u = st ∧ whoR n k (ptY st i) r.toInt)) 31 ([some (.ref (84 + 3 * i)), some (.int (nI j))]) ([]) (st) := by
          intro d
          induction d with
          | zero =>
            intro j hj hj1 hall
            refine g_ild1 eX6_wrongOne_31 ?_
            refine g_ald0 eX6_wrongOne_32 ?_
            refine g_getI (ci := 5) (j := 1) (by first | rfl | exact kd_key hi | exact kd_sh hi | exact kd_ya hi | exact kd_pr hq | exact kd_pk hq | exact kd_pf hq | exact kd_ps hq | exact kd_po hq | exact kd_pr hq2 | exact kd_pk hq2 | exact kd_pf hq2 | exact kd_ps hq2 | exact kd_po hq2) (by first | decide | (unfold N0; omega)) (Nat.le_of_ble_eq_true rfl) (Nat.le_of_ble_eq_true rfl) rfl fl_X6_13 eX6_wrongOne_33 ?_
            rw [h1]
            refine g_icmp_gt eX6_wrongOne_36 (fun hb => ?_) (fun hb => ?_)
            · refine g_bipush (v := (-2)) (by decide) eX6_wrongOne_66 ?_
              refine g_iret rfl eX6_wrongOne_68 ⟨_, rfl, ?_⟩
              try dsimp only
              refine ⟨rfl, fun h => absurd h hL, fun _ h => absurd h (by omega), fun _ _ => ⟨fun a ha1 ha2 ha3 => absurd ha3 (hall a ha1 (by omega)), fun _ => rfl⟩⟩
            · exact absurd (nI_lt (a := n) (b := j) (by omega) (by omega)) hb
          | succ d ih =>
            intro j hj hj1 hall
            have wj := wo_bits n (by omega) j (by omega) (by omega)
            refine g_ild1 eX6_wrongOne_31 ?_
            refine g_ald0 eX6_wrongOne_32 ?_
            refine g_getI (ci := 5) (j := 1) (by first | rfl | exact kd_key hi | exact kd_sh hi | exact kd_ya hi | exact kd_pr hq | exact kd_pk hq | exact kd_pf hq | exact kd_ps hq | exact kd_po hq | exact kd_pr hq2 | exact kd_pk hq2 | exact kd_pf hq2 | exact kd_ps hq2 | exact kd_po hq2) (by first | decide | (unfold N0; omega)) (Nat.le_of_ble_eq_true rfl) (Nat.le_of_ble_eq_true rfl) rfl fl_X6_13 eX6_wrongOne_33 ?_
            rw [h1]
            refine g_icmp_gt eX6_wrongOne_36 (fun hb => ?_) (fun hb => ?_)
            · exact absurd hb (nI_nlt (by omega) (by omega))
            · refine g_ald0 eX6_wrongOne_39 ?_
              refine g_ald0 eX6_wrongOne_40 ?_
              refine g_callVi (ci := 5) (m_all st hi n h1 (by omega)) (by first | rfl | exact kd_key hi | exact kd_sh hi | exact kd_ya hi | exact kd_pr hq | exact kd_pk hq | exact kd_pf hq | exact kd_ps hq | exact kd_po hq | exact kd_pr hq2 | exact kd_pk hq2 | exact kd_pf hq2 | exact kd_ps hq2 | exact kd_po hq2) (by first | decide | (unfold N0; omega)) (Nat.le_of_ble_eq_true rfl) rfl cv_X6_55 eX6_wrongOne_41 ⟨Nat.le_of_ble_eq_true rfl, Nat.le_of_ble_eq_true rfl⟩ rfl rfl (Nat.le_of_ble_eq_true rfl) (fun r st h => ?_)
              obtain ⟨rfl, rfl⟩ := h
              refine g_iconst (v := 1) (by decide) eX6_wrongOne_44 ?_
              refine g_ild1 eX6_wrongOne_45 ?_
              refine g_iconst (v := 1) (by decide) eX6_wrongOne_46 ?_
              refine g_isub eX6_wrongOne_47 ?_
              refine g_ishl eX6_wrongOne_48 ?_
              refine g_iconst (v := (-1)) (by decide) eX6_wrongOne_49 ?_
              refine g_ixor eX6_wrongOne_50 ?_
              refine g_iand eX6_wrongOne_51 ?_
              rw [not_eq n (by omega) j (by omega) hj1 (by omega)]
              refine g_callVi (ci := 5) (m_lieOnOne st hi hp9 (without n j) wj.1) (by first | rfl | exact kd_key hi | exact kd_sh hi | exact kd_ya hi | exact kd_pr hq | exact kd_pk hq | exact kd_pf hq | exact kd_ps hq | exact kd_po hq | exact kd_pr hq2 | exact kd_pk hq2 | exact kd_pf hq2 | exact kd_ps hq2 | exact kd_po hq2) (by first | decide | (unfold N0; omega)) (Nat.le_of_ble_eq_true rfl) rfl cv_X6_59 eX6_wrongOne_52 ⟨Nat.le_of_ble_eq_true rfl, Nat.le_of_ble_eq_true rfl⟩ rfl rfl (Nat.le_of_ble_eq_true rfl) (fun r st h => ?_)
              obtain ⟨rfl, h⟩ := h
              rcases h with ⟨rfl, hJ⟩ | ⟨rfl, hJ⟩
              · refine g_if_eq eX6_wrongOne_55 (fun hb5 => ?_) (fun hb5 => ?_)
                · exact absurd hb5 (by decide)
                · refine g_ild1 eX6_wrongOne_58 ?_
                  refine g_iret rfl eX6_wrongOne_59 ⟨_, rfl, ?_⟩
                  try dsimp only
                  refine ⟨rfl, fun h => absurd h hL, fun _ h => absurd h (by omega), fun _ _ => ⟨fun a ha1 ha2 ha3 => ?_, fun h => absurd hJ (h j hj1 (by omega))⟩⟩
                  rw [nI_toInt (by omega)]
                  by_cases haj : a = j
                  · rw [haj]
                  · exfalso
                    rcases Nat.lt_or_gt_of_ne haj with q | q
                    · exact hall a ha1 q ha3
                    · exact hL (lies_one (by omega) hk1 hb2 hj1 q ha2 hJ ha3)
              · refine g_if_eq eX6_wrongOne_55 (fun hb5 => ?_) (fun hb5 => ?_)
                · refine g_inc1 rfl (Nat.le_of_ble_eq_true rfl) rfl eX6_wrongOne_60 ?_
                  refine g_goto eX6_wrongOne_63 ?_
                  rw [inc1]
                  refine ih (j + 1) (by omega) (by omega) (fun a ha1 ha2 => ?_)
                  by_cases haj : a = j
                  · rw [haj]; exact hJ
                  · exact hall a ha1 (by omega)
                · exact absurd rfl hb5
        exact loop n 1 (by omega) (Nat.le_refl _) (fun a h1 h2 => by omega)
      · rw [nI_leI (by omega) (by omega)] at hb2
        refine g_bipush (v := (-2)) (by decide) eX6_wrongOne_26 ?_
        refine g_iret rfl eX6_wrongOne_28 ⟨_, rfl, ?_⟩
        try dsimp only
        exact ⟨rfl, fun h => absurd h hL, fun _ _ => rfl, fun _ h => absurd h hb2⟩
    · exact absurd rfl hb
noncomputable def dlF (p0 : Int) (seed : Int32) (k : Nat) (j : Int) : Int := powS (fun m => lotF seed (nI m) 100003) j p0 (k - 1) % 100003
theorem dec1 (a : Nat) : nI (a + 1) + Int32.ofInt (-1) = nI a := by
  rw [← nI_1, Int32.add_assoc]
  exact Int32.add_zero _
def dealS (st : St) (i n k : Nat) (f : Nat → Int32) : St := sR (sI (sI st (84 + 3 * i) 1 (nI n)) (84 + 3 * i) 2 (nI k)) (85 + 3 * i) f
theorem m_deal (st : St) {i : Nat} (hi : i < 4) (p0 : Int32) (hp : 0 ≤ p0.toInt ∧ p0.toInt ≤ 100000) (n k : Nat) (hn : n ≤ 6) (hk : 1 ≤ k ∧ k ≤ 6) (seed : Int32) : Mv l D cy 2 YX6_deal [.ref (84 + 3 * i), .int p0, .int (nI n), .int (nI k), .int seed] st (fun u => ∃ f, u = dealS st i n k f ∧ (∀ j : Nat, 1 ≤ j → j ≤ n → (f j).toInt = dlF p0.toInt seed k j) ∧ ∀ j, ¬ (1 ≤ j ∧ j ≤ n) → f j = st.1 (85 + 3 * i) j) := by
  have hln := ln_ya hi
  have eP : (100003 : Int32).toInt = 100003 := rfl
  have hd : ∀ f, (dealS st i n k f).1 (84 + 3 * i) 1 = nI n := fun f => by
    unfold dealS
    rw [sR_ne (by omega), sI_1, if_neg (by omega), sI_1, if_pos ⟨rfl, rfl⟩]
  refine M.ofG [some (.ref (84 + 3 * i)), some (.int p0), some (.int (nI n)), some (.int (nI k)), some (.int seed), none, none, none, none] (by decide) (Nat.le_of_ble_eq_true rfl) rfl ?_
  intro xp xe xs xm xa xb xme xc xad xA
  refine g_ald0 eX6_deal_0 ?_
  refine g_ild2 eX6_deal_1 ?_
  refine g_bipush (v := 6) (by decide) eX6_deal_2 ?_
  refine g_imin mw_X6_20 ⟨Nat.le_of_ble_eq_true rfl, Nat.le_of_ble_eq_true rfl⟩ (Nat.le_of_ble_eq_true rfl) eX6_deal_4 ?_
  rw [show (if (6 : Int32) < nI n then (6 : Int32) else nI n) = nI n from if_neg (nI_nlt (a := 6) (b := n) hn (by decide))]
  refine g_putI (ci := 5) (j := 1) rfl (by first | rfl | exact kd_key hi | exact kd_sh hi | exact kd_ya hi | exact kd_pr hq | exact kd_pk hq | exact kd_pf hq | exact kd_ps hq | exact kd_po hq | exact kd_pr hq2 | exact kd_pk hq2 | exact kd_pf hq2 | exact kd_ps hq2 | exact kd_po hq2) (by first | decide | (unfold N0; omega)) (Nat.le_of_ble_eq_true rfl) (Nat.le_of_ble_eq_true rfl) rfl fl_X6_13 eX6_deal_7 ?_
  refine g_ald0 eX6_deal_10 ?_
  refine g_ild3 eX6_deal_11 ?_
  refine g_putI (ci := 5) (j := 2) rfl (by first | rfl | exact kd_key hi | exact kd_sh hi | exact kd_ya hi | exact kd_pr hq | exact kd_pk hq | exact kd_pf hq | exact kd_ps hq | exact kd_po hq | exact kd_pr hq2 | exact kd_pk hq2 | exact kd_pf hq2 | exact kd_ps hq2 | exact kd_po hq2) (by first | decide | (unfold N0; omega)) (Nat.le_of_ble_eq_true rfl) (Nat.le_of_ble_eq_true rfl) rfl fl_X6_17 eX6_deal_12 ?_
  refine g_iconst (v := 1) (by decide) eX6_deal_15 ?_
  refine g_ist5 rfl (Nat.le_of_ble_eq_true rfl) eX6_deal_16 ?_
  have outer : ∀ (d j : Nat) (f : Nat → Int32) (y6 y8 : Option Value), j + d = n + 1 → 1 ≤ j → (∀ a : Nat, 1 ≤ a → a < j → (f a).toInt = dlF p0.toInt seed k a) → (∀ a, ¬ (1 ≤ a ∧ a < j) → f a = st.1 (85 + 3 * i) a) → G xp l xe (rmd (2)) xs xm xa xb xme xc D cy xad xA (YX6_deal.2.1, YX6_deal.1.cls, YX6_deal.2.2.1, YX6_deal.2.2.2) (Pv (fun (u : St) => ∃ f, u = dealS st i n k f ∧ (∀ j : Nat, 1 ≤ j → j ≤ n → (f j).toInt = dlF p0.toInt seed k j) ∧ ∀ j, ¬ (1 ≤ j ∧ j ≤ n) → f j = st.1 (85 + 3 * i) j)) 18 ([some (.ref (84 + 3 * i)), some (.int p0), some (.int (nI n)), some (.int (nI k)), some (.int seed), some (.int (nI j)), y6, none, y8]) ([]) (dealS st i n k f) := by
    intro d
    induction d with
    | zero =>
      intro j f y6 y8 hj hj1 hf hf2
      refine g_ild5 eX6_deal_18 ?_
      refine g_ald0 eX6_deal_20 ?_
      refine g_getI (ci := 5) (j := 1) (by first | rfl | exact kd_key hi | exact kd_sh hi | exact kd_ya hi | exact kd_pr hq | exact kd_pk hq | exact kd_pf hq | exact kd_ps hq | exact kd_po hq | exact kd_pr hq2 | exact kd_pk hq2 | exact kd_pf hq2 | exact kd_ps hq2 | exact kd_po hq2) (by first | decide | (unfold N0; omega)) (Nat.le_of_ble_eq_true rfl) (Nat.le_of_ble_eq_true rfl) rfl fl_X6_13 eX6_deal_21 ?_
      rw [hd]
      refine g_icmp_gt eX6_deal_24 (fun hb => ?_) (fun hb => ?_)
      · refine g_vret rfl eX6_deal_95 ⟨rfl, ?_⟩
        try dsimp only
        exact ⟨f, rfl, fun a h1 h2 => hf a h1 (by omega), fun a h => hf2 a (fun q => h ⟨q.1, by omega⟩)⟩
      · exact absurd (nI_lt (a := n) (b := j) (by omega) (by omega)) hb
    | succ d ih =>
      intro j f y6 y8 hj hj1 hf hf2
      have ej : (nI j).toInt = j := nI_toInt (by omega)
      have inner : ∀ (a : Nat) (z : Int64), a + 1 ≤ k → z.toInt = horT (fun m => lotF seed (nI m) 100003) (j : Int) (a + 1) (k - 1 - a) % 100003 → G xp l xe (rmd (2)) xs xm xa xb xme xc D cy xad xA (YX6_deal.2.1, YX6_deal.1.cls, YX6_deal.2.2.1, YX6_deal.2.2.2) (Pv (fun (u : St) => ∃ f, u = dealS st i n k f ∧ (∀ j : Nat, 1 ≤ j → j ≤ n → (f j).toInt = dlF p0.toInt seed k j) ∧ ∀ j, ¬ (1 ≤ j ∧ j ≤ n) → f j = st.1 (85 + 3 * i) j)) 35 ([some (.ref (84 + 3 * i)), some (.int p0), some (.int (nI n)), some (.int (nI k)), some (.int seed), some (.int (nI j)), some (.long z), none, some (.int (nI a))]) ([]) (dealS st i n k f) := by
        intro a
        induction a with
        | zero =>
          intro z ha hz
          have hzr : 0 ≤ z.toInt ∧ z.toInt < 100003 := by rw [hz]; exact ⟨Int.emod_nonneg _ (by decide), Int.emod_lt_of_pos _ (by decide)⟩
          refine g_ild8 eX6_deal_35 ?_
          refine g_iconst (v := 1) (by decide) eX6_deal_37 ?_
          refine g_icmp_lt eX6_deal_38 (fun hb2 => ?_) (fun hb2 => ?_)
          · refine g_ald0 eX6_deal_72 ?_
            refine g_getR (ci := 5) (j := 0) (by first | rfl | exact kd_key hi | exact kd_sh hi | exact kd_ya hi | exact kd_pr hq | exact kd_pk hq | exact kd_pf hq | exact kd_ps hq | exact kd_po hq | exact kd_pr hq2 | exact kd_pk hq2 | exact kd_pf hq2 | exact kd_ps hq2 | exact kd_po hq2) (by first | decide | (unfold N0; omega)) (Nat.le_of_ble_eq_true rfl) (Nat.le_of_ble_eq_true rfl) rfl (by first | rfl | exact r_key4 hi | exact r_sh0 hi | exact r_p0 hq | exact r_p1 hq | exact r_p2 hq | exact r_p3 hq | exact r_p0 hq2 | exact r_p1 hq2 | exact r_p2 hq2 | exact r_p3 hq2) fl_X6_9 eX6_deal_73 ?_
            refine g_ild5 eX6_deal_76 ?_
            refine g_lld6 eX6_deal_78 ?_
            refine g_ild1 eX6_deal_80 ?_
            refine g_i2l eX6_deal_81 ?_
            refine g_ladd eX6_deal_82 ?_
            refine g_ldc kc_X6_26 eX6_deal_83 ?_
            have hadd : (z + p0.toInt64).toInt = z.toInt + p0.toInt := by
              rw [fb_addL (by rw [tl]; omega) (by rw [tl]; omega), tl]
            refine g_callSi (m_rest _ _ 100003 (by decide)) cs_X6_33 eX6_deal_85 ⟨Nat.le_of_ble_eq_true rfl, Nat.le_of_ble_eq_true rfl⟩ rfl rfl (Nat.le_of_ble_eq_true rfl) (fun r u h => ?_)
            obtain ⟨rfl, hr⟩ := h
            rw [hadd, eP, hz, emod_addm] at hr
            have hh := hor_pow (fun m => lotF seed (nI m) 100003) (j : Int) p0.toInt (k - 1) 0
            rw [Int.pow_zero, Int.one_mul, Nat.zero_add (k - 1)] at hh
            have hr2 : r.toInt = dlF p0.toInt seed k j := by
              rw [hr]
              unfold dlF
              rw [← hh, Int.add_comm]
              rfl
            refine g_iast (by first | rfl | exact kd_key hi | exact kd_sh hi | exact kd_ya hi | exact kd_pr hq | exact kd_pk hq | exact kd_pf hq | exact kd_ps hq | exact kd_po hq | exact kd_pr hq2 | exact kd_pk hq2 | exact kd_pf hq2 | exact kd_ps hq2 | exact kd_po hq2) (by first | decide | (unfold N0; omega)) (by rw [hln]; exact vp_in_nI (n := j) (N := 7) (by omega) (by decide)) eX6_deal_88 ?_
            rw [nI_clamp (by omega)]
            have eS : sI (dealS st i n k f) (85 + 3 * i) j r = dealS st i n k (upd f j r) := by
              unfold dealS
              rw [sI_sR]
            rw [eS]
            refine g_inc5 rfl (Nat.le_of_ble_eq_true rfl) rfl eX6_deal_89 ?_
            refine g_goto eX6_deal_92 ?_
            rw [inc1]
            refine ih (j + 1) _ _ _ (by omega) (by omega) (fun a h1 h2 => ?_) (fun a h => ?_)
            · by_cases haj : a = j
              · rw [haj, show upd f j r j = r from if_pos rfl]; exact hr2
              · rw [show upd f j r a = f a from if_neg haj]; exact hf a h1 (by omega)
            · rw [show upd f j r a = f a from if_neg (fun q => h ⟨by omega, by omega⟩)]
              exact hf2 a (fun q => h ⟨q.1, by omega⟩)
          · exact absurd (show nI 0 < 1 by decide) hb2
        | succ a iha =>
          intro z ha hz
          have hzr : 0 ≤ z.toInt ∧ z.toInt < 100003 := by rw [hz]; exact ⟨Int.emod_nonneg _ (by decide), Int.emod_lt_of_pos _ (by decide)⟩
          refine g_ild8 eX6_deal_35 ?_
          refine g_iconst (v := 1) (by decide) eX6_deal_37 ?_
          refine g_icmp_lt eX6_deal_38 (fun hb2 => ?_) (fun hb2 => ?_)
          · exact absurd hb2 (nI_nlt (a := a + 1) (b := 1) (by omega) (by omega))
          · refine g_lld6 eX6_deal_41 ?_
            refine g_ild4 eX6_deal_43 ?_
            refine g_ild8 eX6_deal_45 ?_
            refine g_ldc kc_X6_26 eX6_deal_47 ?_
            refine g_callSi (m_drawn _ seed (nI (a + 1)) 100003 (by decide)) cs_X6_27 eX6_deal_49 ⟨Nat.le_of_ble_eq_true rfl, Nat.le_of_ble_eq_true rfl⟩ rfl rfl (Nat.le_of_ble_eq_true rfl) (fun r u h => ?_)
            obtain ⟨rfl, hr⟩ := h
            rw [eP] at hr
            have hlr := lot_rng seed (nI (a + 1)) (n := 100003) (by decide)
            refine g_i2l eX6_deal_52 ?_
            refine g_ladd eX6_deal_53 ?_
            refine g_ild5 eX6_deal_54 ?_
            refine g_i2l eX6_deal_56 ?_
            refine g_lmul eX6_deal_57 ?_
            refine g_ldc kc_X6_26 eX6_deal_58 ?_
            have hadd : (z + r.toInt64).toInt = z.toInt + lotF seed (nI (a + 1)) 100003 := by
              rw [fb_addL (by rw [tl, hr]; omega) (by rw [tl, hr]; omega), tl, hr]
            have hb8 := mul_rng8 (a := z.toInt + lotF seed (nI (a + 1)) 100003) (b := (j : Int)) (by omega) (by omega)
            have hmul : ((z + r.toInt64) * (nI j).toInt64).toInt = (z.toInt + lotF seed (nI (a + 1)) 100003) * (j : Int) := by
              rw [fb_mulL (by rw [hadd, tl, ej]; omega) (by rw [hadd, tl, ej]; omega), hadd, tl, ej]
            refine g_callSi (m_rest _ _ 100003 (by decide)) cs_X6_33 eX6_deal_60 ⟨Nat.le_of_ble_eq_true rfl, Nat.le_of_ble_eq_true rfl⟩ rfl rfl (Nat.le_of_ble_eq_true rfl) (fun r2 u h => ?_)
            obtain ⟨rfl, hr2⟩ := h
            rw [hmul, eP] at hr2
            refine g_i2l eX6_deal_63 ?_
            refine g_lst6 rfl (Nat.le_of_ble_eq_true rfl) eX6_deal_64 ?_
            refine g_inc8 rfl (Nat.le_of_ble_eq_true rfl) rfl eX6_deal_66 ?_
            refine g_goto eX6_deal_69 ?_
            rw [dec1]
            refine iha _ (by omega) ?_
            rw [tl, hr2, hz, show k - 1 - a = (k - 1 - (a + 1)) + 1 by omega]
            show _ = ((lotF seed (nI (a + 1)) 100003 + horT (fun m => lotF seed (nI m) 100003) (j : Int) (a + 1 + 1) (k - 1 - (a + 1))) * (j : Int)) % 100003
            rw [Int.mul_emod, emod_addm, ← Int.mul_emod, Int.add_comm]
      refine g_ild5 eX6_deal_18 ?_
      refine g_ald0 eX6_deal_20 ?_
      refine g_getI (ci := 5) (j := 1) (by first | rfl | exact kd_key hi | exact kd_sh hi | exact kd_ya hi | exact kd_pr hq | exact kd_pk hq | exact kd_pf hq | exact kd_ps hq | exact kd_po hq | exact kd_pr hq2 | exact kd_pk hq2 | exact kd_pf hq2 | exact kd_ps hq2 | exact kd_po hq2) (by first | decide | (unfold N0; omega)) (Nat.le_of_ble_eq_true rfl) (Nat.le_of_ble_eq_true rfl) rfl fl_X6_13 eX6_deal_21 ?_
      rw [hd]
      refine g_icmp_gt eX6_deal_24 (fun hb => ?_) (fun hb => ?_)
      · exact absurd hb (nI_nlt (by omega) (by omega))
      · refine g_lconst (v := 0) rfl eX6_deal_27 ?_
        refine g_lst6 rfl (Nat.le_of_ble_eq_true rfl) eX6_deal_28 ?_
        refine g_ild3 eX6_deal_30 ?_
        refine g_iconst (v := 1) (by decide) eX6_deal_31 ?_
        refine g_isub eX6_deal_32 ?_
        rw [show nI k - 1 = nI (k - 1) by rw [show k = (k - 1) + 1 by omega, nI_pred]; rfl]
        refine g_ist8 rfl (Nat.le_of_ble_eq_true rfl) eX6_deal_33 ?_
        refine inner (k - 1) 0 (by omega) ?_
        rw [Nat.sub_self]
        rfl
  have e9 : sI (sI st (84 + 3 * i) 1 (nI n)) (84 + 3 * i) 2 (nI k) = dealS st i n k (st.1 (85 + 3 * i)) := by
    unfold dealS
    have h8 : st.1 (85 + 3 * i) = (sI (sI st (84 + 3 * i) 1 (nI n)) (84 + 3 * i) 2 (nI k)).1 (85 + 3 * i) := by rw [sI_row (by omega), sI_row (by omega)]
    rw [h8, sR_same]
  rw [e9]
  exact outer n 1 _ _ _ (by omega) (Nat.le_refl _) (fun a h1 h2 => by omega) (fun a _ => rfl)
end PARTE
