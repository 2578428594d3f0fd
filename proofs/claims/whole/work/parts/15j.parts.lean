/-! who: the model -/
section PARTJ
variable {l : Launch} {D : va_G} {cy : Nat → ClassId}
theorem mptOK_sR {st : St} {i n k : Nat} (h : mptOK st i n k) (f : Nat → Int32) : mptOK (sR st 81 f) i n k := by
  obtain ⟨p1, p2, p3, p4, p5⟩ := h
  refine ⟨?_, p2, ?_, p4, p5⟩
  · rw [sR_ne (by decide)]; exact p1
  · rw [sR_ne (by decide)]; exact p3
theorem w_who (st s1 : St) (hT : sI st 31 18 0 = s1) {nk : Nat} (hk : s1.1 31 53 = nI nk) (h4 : nk ≤ 4) (hp : mptsOK s1 nk) (k : Int32) : Mi l D cy 3 YX12_who [.ref 31, .int k] st (fun r u => (∃ f, u = sR s1 81 f) ∧ (isS nk k ∧ 0 < mN s1 (qI k) → whoR (mN s1 (qI k)) (mKn s1 (qI k)) (mptY s1 (qI k)) r.toInt) ∧ (¬ (isS nk k ∧ 0 < mN s1 (qI k)) → r = -1)) := by
  have hkc : (s1.1 31 53).toInt = nk := by rw [hk, nI_toInt (by omega)]
  have e0 : s1 = sR s1 81 (s1.1 81) := by rw [sR_same]
  refine M.ofG [some (.ref 31), some (.int k), none, none, none] (by decide) (Nat.le_of_ble_eq_true rfl) rfl ?_
  intro xp xe xs xm xa xb xme xc xad xA
  have bad : ¬ (isS nk k ∧ 0 < mN s1 (qI k)) → G xp l xe (rmd (3)) xs xm xa xb xme xc D cy xad xA (YX12_who.2.1, YX12_who.1.cls, YX12_who.2.2.1, YX12_who.2.2.2) (Pi (fun (r : Int32) (u : St) => (∃ f, u = sR s1 81 f) ∧ (isS nk k ∧ 0 < mN s1 (qI k) → whoR (mN s1 (qI k)) (mKn s1 (qI k)) (mptY s1 (qI k)) r.toInt) ∧ (¬ (isS nk k ∧ 0 < mN s1 (qI k)) → r = -1))) 22 ([some (.ref 31), some (.int k), none, none, none]) ([]) (s1) := by
    intro h
    refine g_iconst (v := (-1)) (by decide) eX12_who_22 ?_
    refine g_iret rfl eX12_who_23 ⟨_, rfl, ?_⟩
    try dsimp only
    exact ⟨⟨_, e0⟩, fun q => absurd q h, fun _ => rfl⟩
  refine g_ald0 eX12_who_0 ?_
  refine g_iconst (v := 0) (by decide) eX12_who_1 ?_
  refine g_putI (ci := 11) (j := 18) rfl rfl (Nat.le_of_ble_eq_true rfl) (Nat.le_of_ble_eq_true rfl) (Nat.le_of_ble_eq_true rfl) rfl fl_X12_177 eX12_who_2 ?_
  rw [hT]
  refine g_ald0 eX12_who_5 ?_
  refine g_ild1 eX12_who_6 ?_
  refine g_callVi (ci := 11) (w_isKey _ k) rfl (Nat.le_of_ble_eq_true rfl) (Nat.le_of_ble_eq_true rfl) rfl cv_X12_388 eX12_who_7 ⟨Nat.le_of_ble_eq_true rfl, Nat.le_of_ble_eq_true rfl⟩ rfl rfl (Nat.le_of_ble_eq_true rfl) (fun r s1 h => ?_)
  obtain ⟨rfl, rfl⟩ := h
  rw [hkc]
  refine g_if_eq eX12_who_10 (fun hb => ?_) (fun hb => ?_)
  · rw [b2_eq0] at hb
    exact bad (fun h => hb h.1)
  · rw [b2_ne0] at hb
    obtain ⟨i, hik, rfl⟩ := as_nI hb
    have hi : i < 4 := by omega
    have e : qI (nI i) = i := nI_clamp (by omega)
    have eC : (nI i).toNatClampNeg = i := e
    have hpi := (hp i hik).1
    have hk1 := (hp i hik).2
    have hpi9 := hpi
    obtain ⟨p1, p2, p3, p4, p5⟩ := hpi
    have hin4 : vp_in (nI i) 4 := vp_in_nI (n := i) (N := 4) hi (by decide)
    have hr78 : ∀ f : Nat → Int32, (sR s1 81 f).1 78 = s1.1 78 := fun f => sR_ne (by decide)
    have hr79 : ∀ f : Nat → Int32, (sR s1 81 f).1 79 = s1.1 79 := fun f => sR_ne (by decide)
    refine g_ald0 eX12_who_13 ?_
    refine g_getR (ci := 11) (j := 73) rfl (Nat.le_of_ble_eq_true rfl) (Nat.le_of_ble_eq_true rfl) (Nat.le_of_ble_eq_true rfl) rfl rfl fl_X12_155 eX12_who_14 ?_
    refine g_ild1 eX12_who_17 ?_
    refine g_iald rfl (Nat.le_of_ble_eq_true rfl) hin4 eX12_who_18 ?_
    rw [eC, p1]
    refine g_if_ne eX12_who_19 (fun hb2 => ?_) (fun hb2 => ?_)
    · rw [fa_eq, z32, nI_toInt (by omega)] at hb2
      have hn0 : 0 < mN s1 i := by omega
      have hOK : isS nk (nI i) ∧ 0 < mN s1 (qI (nI i)) := ⟨hb, by rw [e]; exact hn0⟩
      generalize hY : mptY s1 i = Y at p5
      have fin : ∀ (r : Int32) (f : Nat → Int32), whoR (mN s1 i) (mKn s1 i) Y r.toInt → (∃ g, sR s1 81 f = sR s1 81 g) ∧ (isS nk (nI i) ∧ 0 < mN s1 (qI (nI i)) → whoR (mN s1 (qI (nI i))) (mKn s1 (qI (nI i))) (mptY s1 (qI (nI i))) r.toInt) ∧ (¬ (isS nk (nI i) ∧ 0 < mN s1 (qI (nI i))) → r = -1) := by
        intro r f hr
        refine ⟨⟨f, rfl⟩, fun _ => ?_, fun h => absurd hOK h⟩
        rw [e, hY]
        exact hr
      refine g_ald0 eX12_who_24 ?_
      refine g_ild1 eX12_who_25 ?_
      refine g_iconst (v := 0) (by decide) eX12_who_26 ?_
      refine g_callVi (ci := 11) (w_liesOnOne _ i hi hpi9 0 (Nat.zero_le _)) rfl (Nat.le_of_ble_eq_true rfl) (Nat.le_of_ble_eq_true rfl) rfl cv_X12_503 eX12_who_27 ⟨Nat.le_of_ble_eq_true rfl, Nat.le_of_ble_eq_true rfl⟩ rfl rfl (Nat.le_of_ble_eq_true rfl) (fun r u h => ?_)
      obtain ⟨⟨f, rfl⟩, h⟩ := h
      rw [hY] at h
      rcases h with ⟨rfl, hL⟩ | ⟨rfl, hL⟩
      · refine g_if_eq eX12_who_30 (fun hb3 => ?_) (fun hb3 => ?_)
        · exact absurd hb3 (by decide)
        · refine g_iconst (v := 0) (by decide) eX12_who_33 ?_
          refine g_iret rfl eX12_who_34 ⟨_, rfl, ?_⟩
          try dsimp only
          exact fin 0 f ⟨fun _ => rfl, fun h => absurd hL h, fun h => absurd hL h⟩
      · refine g_if_eq eX12_who_30 (fun hb3 => ?_) (fun hb3 => ?_)
        · refine g_ald0 eX12_who_35 ?_
          refine g_getR (ci := 11) (j := 73) rfl (Nat.le_of_ble_eq_true rfl) (Nat.le_of_ble_eq_true rfl) (Nat.le_of_ble_eq_true rfl) rfl rfl fl_X12_155 eX12_who_36 ?_
          refine g_ild1 eX12_who_39 ?_
          refine g_iald rfl (Nat.le_of_ble_eq_true rfl) hin4 eX12_who_40 ?_
          rw [hr78, eC, p1]
          refine g_ald0 eX12_who_41 ?_
          refine g_getR (ci := 11) (j := 74) rfl (Nat.le_of_ble_eq_true rfl) (Nat.le_of_ble_eq_true rfl) (Nat.le_of_ble_eq_true rfl) rfl rfl fl_X12_158 eX12_who_42 ?_
          refine g_ild1 eX12_who_45 ?_
          refine g_iald rfl (Nat.le_of_ble_eq_true rfl) hin4 eX12_who_46 ?_
          rw [hr79, eC, p3]
          refine g_iconst (v := 2) (by decide) eX12_who_47 ?_
          refine g_iadd eX12_who_48 ?_
          rw [show nI (mKn s1 i) + 2 = nI (mKn s1 i + 2) from nI_add _ 2]
          refine g_icmp_ge eX12_who_49 (fun hb4 => ?_) (fun hb4 => ?_)
          · rw [nI_leI (by omega) (by omega)] at hb4
            have loop : ∀ (d a : Nat) (f : Nat → Int32) (x : Int32) (c : Nat), a + d = mN s1 i + 1 → 1 ≤ a → ((c = 0 ∧ x = -2 ∧ ∀ j, 1 ≤ j → j < a → ¬ lies (without (mN s1 i) j) (mKn s1 i) Y) ∨ (c = 1 ∧ ∃ j, 1 ≤ j ∧ j < a ∧ x = nI j ∧ lies (without (mN s1 i) j) (mKn s1 i) Y)) → G xp l xe (rmd (3)) xs xm xa xb xme xc D cy xad xA (YX12_who.2.1, YX12_who.1.cls, YX12_who.2.2.1, YX12_who.2.2.2) (Pi (fun (r : Int32) (u : St) => (∃ f, u = sR s1 81 f) ∧ (isS nk (nI i) ∧ 0 < mN s1 (qI (nI i)) → whoR (mN s1 (qI (nI i))) (mKn s1 (qI (nI i))) (mptY s1 (qI (nI i))) r.toInt) ∧ (¬ (isS nk (nI i) ∧ 0 < mN s1 (qI (nI i))) → r = -1))) 63 ([some (.ref 31), some (.int (nI i)), some (.int x), some (.int (nI c)), some (.int (nI a))]) ([]) (sR s1 81 f) := by
              intro d
              induction d with
              | zero =>
                intro a f x c ha ha1 hinv
                refine g_ild4 eX12_who_63 ?_
                refine g_ald0 eX12_who_65 ?_
                refine g_getR (ci := 11) (j := 73) rfl (Nat.le_of_ble_eq_true rfl) (Nat.le_of_ble_eq_true rfl) (Nat.le_of_ble_eq_true rfl) rfl rfl fl_X12_155 eX12_who_66 ?_
                refine g_ild1 eX12_who_69 ?_
                refine g_iald rfl (Nat.le_of_ble_eq_true rfl) hin4 eX12_who_70 ?_
                rw [hr78, eC, p1]
                refine g_icmp_gt eX12_who_71 (fun hb5 => ?_) (fun hb5 => ?_)
                · rcases hinv with ⟨rfl, rfl, hno⟩ | ⟨rfl, j, hj1, hja, rfl, hJ⟩
                  · refine g_ild3 eX12_who_99 ?_
                    refine g_iconst (v := 1) (by decide) eX12_who_100 ?_
                    refine g_icmp_ne eX12_who_101 (fun hb6 => ?_) (fun hb6 => ?_)
                    · refine g_bipush (v := (-2)) (by decide) eX12_who_108 ?_
                      refine g_iret rfl eX12_who_110 ⟨_, rfl, ?_⟩
                      try dsimp only
                      exact fin (-2) f ⟨fun h => absurd h hL, fun _ _ => rfl, fun _ _ => ⟨fun j q1 q2 q3 => absurd q3 (hno j q1 (by omega)), fun _ => rfl⟩⟩
                    · exact absurd hb6 (by decide)
                  · refine g_ild3 eX12_who_99 ?_
                    refine g_iconst (v := 1) (by decide) eX12_who_100 ?_
                    refine g_icmp_ne eX12_who_101 (fun hb6 => ?_) (fun hb6 => ?_)
                    · exact absurd rfl hb6
                    · refine g_ild2 eX12_who_104 ?_
                      refine g_goto eX12_who_105 ?_
                      refine g_iret rfl eX12_who_110 ⟨_, rfl, ?_⟩
                      try dsimp only
                      refine fin (nI j) f ⟨fun h => absurd h hL, fun _ h => absurd h (by omega), fun _ _ => ⟨fun j2 q1 q2 q3 => ?_, fun h => absurd hJ (h j hj1 (by omega))⟩⟩
                      rw [nI_toInt (by omega)]
                      by_cases hjj : j2 = j
                      · rw [hjj]
                      · exfalso
                        rcases Nat.lt_or_gt_of_ne hjj with q | q
                        · exact hL (lies_one (by omega) (hk1 hn0) hb4 q1 q (by omega) q3 hJ)
                        · exact hL (lies_one (by omega) (hk1 hn0) hb4 hj1 q q2 hJ q3)
                · exact absurd (nI_lt (a := mN s1 i) (b := a) (by omega) (by omega)) hb5
              | succ d ih =>
                intro a f x c ha ha1 hinv
                refine g_ild4 eX12_who_63 ?_
                refine g_ald0 eX12_who_65 ?_
                refine g_getR (ci := 11) (j := 73) rfl (Nat.le_of_ble_eq_true rfl) (Nat.le_of_ble_eq_true rfl) (Nat.le_of_ble_eq_true rfl) rfl rfl fl_X12_155 eX12_who_66 ?_
                refine g_ild1 eX12_who_69 ?_
                refine g_iald rfl (Nat.le_of_ble_eq_true rfl) hin4 eX12_who_70 ?_
                rw [hr78, eC, p1]
                refine g_icmp_gt eX12_who_71 (fun hb5 => ?_) (fun hb5 => ?_)
                · exact absurd hb5 (nI_nlt (by omega) (by omega))
                · refine g_ald0 eX12_who_74 ?_
                  refine g_ild1 eX12_who_75 ?_
                  refine g_ild4 eX12_who_76 ?_
                  refine g_callVi (ci := 11) (w_liesOnOne _ i hi (mptOK_sR hpi9 f) a (by omega)) rfl (Nat.le_of_ble_eq_true rfl) (Nat.le_of_ble_eq_true rfl) rfl cv_X12_503 eX12_who_78 ⟨Nat.le_of_ble_eq_true rfl, Nat.le_of_ble_eq_true rfl⟩ rfl rfl (Nat.le_of_ble_eq_true rfl) (fun r u h => ?_)
                  obtain ⟨⟨f2, rfl⟩, h⟩ := h
                  rw [mptY_sR, hY] at h
                  rw [sR_sR]
                  rcases h with ⟨rfl, hJ⟩ | ⟨rfl, hJ⟩
                  · refine g_if_ne eX12_who_81 (fun hb6 => ?_) (fun hb6 => ?_)
                    · refine g_ild4 eX12_who_87 ?_
                      refine g_ist2 rfl (Nat.le_of_ble_eq_true rfl) eX12_who_89 ?_
                      refine g_inc3 rfl (Nat.le_of_ble_eq_true rfl) rfl eX12_who_90 ?_
                      refine g_inc4 rfl (Nat.le_of_ble_eq_true rfl) rfl eX12_who_93 ?_
                      refine g_goto eX12_who_96 ?_
                      rw [inc1, inc1]
                      rcases hinv with ⟨rfl, rfl, hno⟩ | ⟨rfl, j, hj1, hja, rfl, hJ2⟩
                      · exact ih (a + 1) f2 _ 1 (by omega) (by omega) (Or.inr ⟨rfl, a, ha1, by omega, rfl, hJ⟩)
                      · exact absurd (lies_one (by omega) (hk1 hn0) hb4 hj1 hja (by omega) hJ2 hJ) hL
                    · exact absurd hb6 (by decide)
                  · refine g_if_ne eX12_who_81 (fun hb6 => ?_) (fun hb6 => ?_)
                    · exact absurd rfl hb6
                    · refine g_goto eX12_who_84 ?_
                      refine g_inc4 rfl (Nat.le_of_ble_eq_true rfl) rfl eX12_who_93 ?_
                      refine g_goto eX12_who_96 ?_
                      rw [inc1]
                      refine ih (a + 1) f2 x c (by omega) (by omega) ?_
                      rcases hinv with ⟨rfl, rfl, hno⟩ | ⟨rfl, j, hj1, hja, rfl, hJ2⟩
                      · refine Or.inl ⟨rfl, rfl, fun j q1 q2 => ?_⟩
                        by_cases hja : j = a
                        · rw [hja]; exact hJ
                        · exact hno j q1 (by omega)
                      · exact Or.inr ⟨rfl, j, hj1, by omega, rfl, hJ2⟩
            refine g_bipush (v := (-2)) (by decide) eX12_who_55 ?_
            refine g_ist2 rfl (Nat.le_of_ble_eq_true rfl) eX12_who_57 ?_
            refine g_iconst (v := 0) (by decide) eX12_who_58 ?_
            refine g_ist3 rfl (Nat.le_of_ble_eq_true rfl) eX12_who_59 ?_
            refine g_iconst (v := 1) (by decide) eX12_who_60 ?_
            refine g_ist4 rfl (Nat.le_of_ble_eq_true rfl) eX12_who_61 ?_
            exact loop (mN s1 i) 1 f (-2) 0 (by omega) (Nat.le_refl _) (Or.inl ⟨rfl, rfl, fun j q1 q2 => by omega⟩)
          · rw [nI_leI (by omega) (by omega)] at hb4
            refine g_bipush (v := (-2)) (by decide) eX12_who_52 ?_
            refine g_iret rfl eX12_who_54 ⟨_, rfl, ?_⟩
            try dsimp only
            exact fin (-2) f ⟨fun h => absurd h hL, fun _ _ => rfl, fun _ h => absurd h hb4⟩
        · exact absurd rfl hb3
    · rw [fa_eq, z32, nI_toInt (by omega)] at hb2
      exact bad (fun h => by have := h.2; rw [e] at this; omega)
end PARTJ
