/-! SealedSumsModel: keys, openings, programs told -/
section MODE
variable {l : Launch} {D : va_G} {cy : Nat → ClassId}
theorem rem0 {x z : Int32} {k : Int} (hz : z.toInt = k) (hk : 0 < k) (hx : 0 ≤ x.toInt) : x - x / z * z = 0 ↔ x.toInt % k = 0 := by
  rw [fa_eq, remK hz hk hx, z32]
/-- behind a new key -/
def keyM (st : St) (nk : Nat) (p q b : Int32) : St := sI (sI (sI (sI (sI (sI st 63 nk p) 64 nk q) 65 nk b) 66 nk 0) 78 nk 0) 31 53 (nI (nk + 1))
set_option maxHeartbeats 4000000 in
theorem w_key (st s1 : St) (hT : sI st 31 18 0 = s1) (p0 q b : Int32) (nk : Nat) (hn : s1.1 31 53 = nI nk) (h : nk ≤ 4) : Mi l D cy 1 YX12_key [.ref 31, .int p0, .int q, .int b] st (fun r u => if nk < 4 ∧ goodKey p0.toInt q.toInt b.toInt then r = nI nk ∧ u = keyM s1 nk p0 q b else r = -1 ∧ u = s1) := by
  have ht : (nI nk).toInt = nk := nI_toInt (by omega)
  have hc : (nI nk).toNatClampNeg = nk := nI_clamp (by omega)
  have ea : (101 : Int32).toInt = 101 := rfl
  have eb : (99999 : Int32).toInt = 99999 := rfl
  have ec : (10 : Int32).toInt = 10 := rfl
  have ed : (1000 : Int32).toInt = 1000 := rfl
  have ee : (0 : Int32).toInt = 0 := rfl
  refine M.ofG [some (.ref 31), some (.int p0), some (.int q), some (.int b)] (by decide) (Nat.le_of_ble_eq_true rfl) rfl ?_
  intro xp xe xs xm xa xb xme xc xad xA
  have bad : ¬ (nk < 4 ∧ goodKey p0.toInt q.toInt b.toInt) → G xp l xe (rmd (1)) xs xm xa xb xme xc D cy xad xA (YX12_key.2.1, YX12_key.1.cls, YX12_key.2.2.1, YX12_key.2.2.2) (Pi (fun (r : Int32) (u : St) => if nk < 4 ∧ goodKey p0.toInt q.toInt b.toInt then r = nI nk ∧ u = keyM s1 nk p0 q b else r = -1 ∧ u = s1)) 86 ([some (.ref 31), some (.int p0), some (.int q), some (.int b)]) ([]) (s1) := by
    intro hb
    refine g_iconst (v := (-1)) (by decide) eX12_key_86 ?_
    refine g_iret rfl eX12_key_87 ⟨_, rfl, ?_⟩
    try dsimp only
    rw [if_neg hb]
    exact ⟨rfl, rfl⟩
  refine g_ald0 eX12_key_0 ?_
  refine g_iconst (v := 0) (by decide) eX12_key_1 ?_
  refine g_putI (ci := 11) (j := 18) rfl rfl (Nat.le_of_ble_eq_true rfl) (Nat.le_of_ble_eq_true rfl) (Nat.le_of_ble_eq_true rfl) rfl fl_X12_177 eX12_key_2 ?_
  rw [hT]
  refine g_ald0 eX12_key_5 ?_
  refine g_getI (ci := 11) (j := 53) rfl (Nat.le_of_ble_eq_true rfl) (Nat.le_of_ble_eq_true rfl) (Nat.le_of_ble_eq_true rfl) rfl fl_X12_385 eX12_key_6 ?_
  refine g_iconst (v := 4) (by decide) eX12_key_9 ?_
  rw [hn]
  refine g_icmp_eq eX12_key_10 (fun hf => ?_) (fun hf => ?_)
  · simp only [fa_eq, Int32.reduceToInt, ht] at hf
    exact bad (fun h => by have := h.1; omega)
  · simp only [fa_eq, Int32.reduceToInt, ht] at hf
    refine g_ild1 eX12_key_13 ?_
    refine g_bipush (v := 101) (by decide) eX12_key_14 ?_
    refine g_ldcw kc_X12_391 eX12_key_16 ?_
    refine g_callSi (w_in _ p0 101 99999) cs_X12_378 eX12_key_19 ⟨Nat.le_of_ble_eq_true rfl, Nat.le_of_ble_eq_true rfl⟩ rfl rfl (Nat.le_of_ble_eq_true rfl) (fun r s1 h1 => ?_)
    obtain ⟨rfl, rfl⟩ := h1
    rw [ea, eb]
    refine g_if_eq eX12_key_22 (fun h22 => ?_) (fun h22 => ?_)
    · rw [b2_eq0] at h22
      exact bad (fun h => h22 ⟨h.2.1, h.2.2.1⟩)
    · rw [b2_ne0] at h22
      have hp : 0 ≤ p0.toInt := by omega
      refine g_ild1 eX12_key_25 ?_
      refine g_iconst (v := 2) (by decide) eX12_key_26 ?_
      refine g_irem (by decide) eX12_key_27 ?_
      refine g_if_eq eX12_key_28 (fun h28 => ?_) (fun h28 => ?_)
      · rw [rem0 (z := 2) (k := 2) rfl (by decide) hp] at h28
        exact bad (fun h => by have := h.2.2.2.1; omega)
      · rw [rem0 (z := 2) (k := 2) rfl (by decide) hp] at h28
        refine g_ild1 eX12_key_31 ?_
        refine g_iconst (v := 3) (by decide) eX12_key_32 ?_
        refine g_irem (by decide) eX12_key_33 ?_
        refine g_if_eq eX12_key_34 (fun h34 => ?_) (fun h34 => ?_)
        · rw [rem0 (z := 3) (k := 3) rfl (by decide) hp] at h34
          exact bad (fun h => h.2.2.2.2.1 h34)
        · rw [rem0 (z := 3) (k := 3) rfl (by decide) hp] at h34
          refine g_ild1 eX12_key_37 ?_
          refine g_iconst (v := 5) (by decide) eX12_key_38 ?_
          refine g_irem (by decide) eX12_key_39 ?_
          refine g_if_eq eX12_key_40 (fun h40 => ?_) (fun h40 => ?_)
          · rw [rem0 (z := 5) (k := 5) rfl (by decide) hp] at h40
            exact bad (fun h => h.2.2.2.2.2.1 h40)
          · rw [rem0 (z := 5) (k := 5) rfl (by decide) hp] at h40
            refine g_ild1 eX12_key_43 ?_
            refine g_bipush (v := 7) (by decide) eX12_key_44 ?_
            refine g_irem (by decide) eX12_key_46 ?_
            refine g_if_eq eX12_key_47 (fun h47 => ?_) (fun h47 => ?_)
            · rw [rem0 (z := 7) (k := 7) rfl (by decide) hp] at h47
              exact bad (fun h => h.2.2.2.2.2.2.1 h47)
            · rw [rem0 (z := 7) (k := 7) rfl (by decide) hp] at h47
              refine g_ild1 eX12_key_50 ?_
              refine g_bipush (v := 11) (by decide) eX12_key_51 ?_
              refine g_irem (by decide) eX12_key_53 ?_
              refine g_if_eq eX12_key_54 (fun h54 => ?_) (fun h54 => ?_)
              · rw [rem0 (z := 11) (k := 11) rfl (by decide) hp] at h54
                exact bad (fun h => h.2.2.2.2.2.2.2.1 h54)
              · rw [rem0 (z := 11) (k := 11) rfl (by decide) hp] at h54
                refine g_ild1 eX12_key_57 ?_
                refine g_bipush (v := 13) (by decide) eX12_key_58 ?_
                refine g_irem (by decide) eX12_key_60 ?_
                refine g_if_eq eX12_key_61 (fun h61 => ?_) (fun h61 => ?_)
                · rw [rem0 (z := 13) (k := 13) rfl (by decide) hp] at h61
                  exact bad (fun h => h.2.2.2.2.2.2.2.2.1 h61)
                · rw [rem0 (z := 13) (k := 13) rfl (by decide) hp] at h61
                  refine g_ild2 eX12_key_64 ?_
                  refine g_bipush (v := 10) (by decide) eX12_key_65 ?_
                  refine g_sipush (v := 1000) (by decide) eX12_key_67 ?_
                  refine g_callSi (w_in _ q 10 1000) cs_X12_378 eX12_key_70 ⟨Nat.le_of_ble_eq_true rfl, Nat.le_of_ble_eq_true rfl⟩ rfl rfl (Nat.le_of_ble_eq_true rfl) (fun r s1 h1 => ?_)
                  obtain ⟨rfl, rfl⟩ := h1
                  rw [ec, ed]
                  refine g_if_eq eX12_key_73 (fun h73 => ?_) (fun h73 => ?_)
                  · rw [b2_eq0] at h73
                    exact bad (fun h => h73 ⟨h.2.2.2.2.2.2.2.2.2.1, h.2.2.2.2.2.2.2.2.2.2.1⟩)
                  · rw [b2_ne0] at h73
                    refine g_ild3 eX12_key_76 ?_
                    refine g_iconst (v := 0) (by decide) eX12_key_77 ?_
                    refine g_bipush (v := 10) (by decide) eX12_key_78 ?_
                    refine g_callSi (w_in _ b 0 10) cs_X12_378 eX12_key_80 ⟨Nat.le_of_ble_eq_true rfl, Nat.le_of_ble_eq_true rfl⟩ rfl rfl (Nat.le_of_ble_eq_true rfl) (fun r s1 h1 => ?_)
                    obtain ⟨rfl, rfl⟩ := h1
                    rw [ec, ee]
                    refine g_if_ne eX12_key_83 (fun h83 => ?_) (fun h83 => ?_)
                    · rw [b2_ne0] at h83
                      have hv : ∀ z, z = 4 → vp_in (nI nk) z := fun z e => by subst e; exact vp_in_nI (by omega) (by decide)
                      have d0 : ∀ a : Nat, a ≠ 31 → ∀ j : Nat, ∀ x : Int32, ∀ u : St, (sI u a j x).1 31 53 = u.1 31 53 := fun a ha j x u => by rw [sI_1, if_neg (fun q => ha q.1.symm)]
                      refine g_ald0 eX12_key_88 ?_
                      refine g_getR (ci := 11) (j := 54) rfl (Nat.le_of_ble_eq_true rfl) (Nat.le_of_ble_eq_true rfl) (Nat.le_of_ble_eq_true rfl) rfl rfl fl_X12_109 eX12_key_89 ?_
                      refine g_ald0 eX12_key_92 ?_
                      refine g_getI (ci := 11) (j := 53) rfl (Nat.le_of_ble_eq_true rfl) (Nat.le_of_ble_eq_true rfl) (Nat.le_of_ble_eq_true rfl) rfl fl_X12_385 eX12_key_93 ?_
                      refine g_ild1 eX12_key_96 ?_
                      refine g_iast rfl (Nat.le_of_ble_eq_true rfl) (by rw [hn]; exact hv _ rfl) eX12_key_97 ?_
                      rw [hn, hc]
                      refine g_ald0 eX12_key_98 ?_
                      refine g_getR (ci := 11) (j := 55) rfl (Nat.le_of_ble_eq_true rfl) (Nat.le_of_ble_eq_true rfl) (Nat.le_of_ble_eq_true rfl) rfl rfl fl_X12_112 eX12_key_99 ?_
                      refine g_ald0 eX12_key_102 ?_
                      refine g_getI (ci := 11) (j := 53) rfl (Nat.le_of_ble_eq_true rfl) (Nat.le_of_ble_eq_true rfl) (Nat.le_of_ble_eq_true rfl) rfl fl_X12_385 eX12_key_103 ?_
                      refine g_ild2 eX12_key_106 ?_
                      refine g_iast rfl (Nat.le_of_ble_eq_true rfl) (by rw [d0 _ (by decide), hn]; exact hv _ rfl) eX12_key_107 ?_
                      rw [d0 _ (by decide), hn, hc]
                      refine g_ald0 eX12_key_108 ?_
                      refine g_getR (ci := 11) (j := 56) rfl (Nat.le_of_ble_eq_true rfl) (Nat.le_of_ble_eq_true rfl) (Nat.le_of_ble_eq_true rfl) rfl rfl fl_X12_115 eX12_key_109 ?_
                      refine g_ald0 eX12_key_112 ?_
                      refine g_getI (ci := 11) (j := 53) rfl (Nat.le_of_ble_eq_true rfl) (Nat.le_of_ble_eq_true rfl) (Nat.le_of_ble_eq_true rfl) rfl fl_X12_385 eX12_key_113 ?_
                      refine g_ild3 eX12_key_116 ?_
                      refine g_iast rfl (Nat.le_of_ble_eq_true rfl) (by rw [d0 _ (by decide), d0 _ (by decide), hn]; exact hv _ rfl) eX12_key_117 ?_
                      rw [d0 _ (by decide), d0 _ (by decide), hn, hc]
                      refine g_ald0 eX12_key_118 ?_
                      refine g_getR (ci := 11) (j := 57) rfl (Nat.le_of_ble_eq_true rfl) (Nat.le_of_ble_eq_true rfl) (Nat.le_of_ble_eq_true rfl) rfl rfl fl_X12_118 eX12_key_119 ?_
                      refine g_ald0 eX12_key_122 ?_
                      refine g_getI (ci := 11) (j := 53) rfl (Nat.le_of_ble_eq_true rfl) (Nat.le_of_ble_eq_true rfl) (Nat.le_of_ble_eq_true rfl) rfl fl_X12_385 eX12_key_123 ?_
                      refine g_iconst (v := 0) (by decide) eX12_key_126 ?_
                      refine g_zast rfl (Nat.le_of_ble_eq_true rfl) rfl (by rw [d0 _ (by decide), d0 _ (by decide), d0 _ (by decide), hn]; exact hv _ rfl) eX12_key_127 ?_
                      rw [d0 _ (by decide), d0 _ (by decide), d0 _ (by decide), hn, hc]
                      refine g_ald0 eX12_key_128 ?_
                      refine g_getR (ci := 11) (j := 73) rfl (Nat.le_of_ble_eq_true rfl) (Nat.le_of_ble_eq_true rfl) (Nat.le_of_ble_eq_true rfl) rfl rfl fl_X12_155 eX12_key_129 ?_
                      refine g_ald0 eX12_key_132 ?_
                      refine g_getI (ci := 11) (j := 53) rfl (Nat.le_of_ble_eq_true rfl) (Nat.le_of_ble_eq_true rfl) (Nat.le_of_ble_eq_true rfl) rfl fl_X12_385 eX12_key_133 ?_
                      refine g_iconst (v := 0) (by decide) eX12_key_136 ?_
                      refine g_iast rfl (Nat.le_of_ble_eq_true rfl) (by rw [d0 _ (by decide), d0 _ (by decide), d0 _ (by decide), d0 _ (by decide), hn]; exact hv _ rfl) eX12_key_137 ?_
                      rw [d0 _ (by decide), d0 _ (by decide), d0 _ (by decide), d0 _ (by decide), hn, hc]
                      have ef : (sI (sI (sI (sI (sI s1 63 nk p0) 64 nk q) 65 nk b) 66 nk 0) 78 nk 0).1 31 53 = nI nk := by
                        rw [d0 _ (by decide), d0 _ (by decide), d0 _ (by decide), d0 _ (by decide), d0 _ (by decide), hn]
                      refine g_ald0 eX12_key_138 ?_
                      refine g_dup rfl eX12_key_139 ?_
                      refine g_getI (ci := 11) (j := 53) rfl (Nat.le_of_ble_eq_true rfl) (Nat.le_of_ble_eq_true rfl) (Nat.le_of_ble_eq_true rfl) rfl fl_X12_385 eX12_key_140 ?_
                      refine g_iconst (v := 1) (by decide) eX12_key_143 ?_
                      refine g_iadd eX12_key_144 ?_
                      refine g_putI (ci := 11) (j := 53) rfl rfl (Nat.le_of_ble_eq_true rfl) (Nat.le_of_ble_eq_true rfl) (Nat.le_of_ble_eq_true rfl) rfl fl_X12_385 eX12_key_145 ?_
                      refine g_ald0 eX12_key_148 ?_
                      refine g_getI (ci := 11) (j := 53) rfl (Nat.le_of_ble_eq_true rfl) (Nat.le_of_ble_eq_true rfl) (Nat.le_of_ble_eq_true rfl) rfl fl_X12_385 eX12_key_149 ?_
                      refine g_iconst (v := 1) (by decide) eX12_key_152 ?_
                      refine g_isub eX12_key_153 ?_
                      refine g_iret rfl eX12_key_154 ⟨_, rfl, ?_⟩
                      try dsimp only
                      rw [if_pos ⟨by omega, h22.1, h22.2, by omega, h34, h40, h47, h54, h61, h73.1, h73.2, h83.1, h83.2⟩, ef, nI_1]
                      refine ⟨?_, rfl⟩
                      rw [sI_1, if_pos ⟨rfl, rfl⟩]
                      exact nI_pred nk
                    · rw [b2_eq0] at h83
                      exact bad (fun h => h83 ⟨h.2.2.2.2.2.2.2.2.2.2.2.1, h.2.2.2.2.2.2.2.2.2.2.2.2⟩)
theorem opM_lt (st : St) (n : Nat) (s0 : Int32) (h5 : tOK (st.1 31 17)) : opM st n s0 < 13 := by
  have hor := nmod_rng (mC st s0) (mP st (mK st s0)) h5
  unfold opM
  by_cases q1 : isS n s0
  · rw [if_pos q1]
    by_cases q2 : alvM st (mK st s0)
    · rw [if_pos q2]
      by_cases q3 : mP st (mK st s0) ≤ 2 * mB st s0
      · rw [if_pos q3]; decide
      · rw [if_neg q3]; exact hor.2
    · rw [if_neg q2]; decide
  · rw [if_neg q1]; decide
set_option maxHeartbeats 4000000 in
theorem w_opening (st s1 : St) (hT : sI st 31 18 0 = s1) {nk n : Nat} (hx : mOK s1 nk n) (hod : oddM s1 nk) (s0 a seed : Int32) (hbud : 0 ≤ (s1.1 31 65).toInt ∧ (s1.1 31 65).toInt ≤ 10000) : Mi l D cy 3 YX12_opening [.ref 31, .int s0, .int a, .int seed] st (fun r u => if isS n s0 ∧ 0 ≤ a.toInt ∧ a.toInt ≤ 5 then (if opM s1 n s0 < 0 then r.toInt = opM s1 n s0 ∧ u = s1 else if (s1.1 31 65).toInt < 60 / (a.toInt + 1) then r = -4 ∧ u = s1 else r.toInt = opgF (opM s1 n s0) (s1.1 31 17).toInt a seed ∧ ∃ z : Int32, z.toInt = (s1.1 31 65).toInt - 60 / (a.toInt + 1) ∧ u = sI s1 31 65 z) else r = -1 ∧ u = s1) := by
  have hx0 := hx
  obtain ⟨h1, h2, h3, h4, h5, h6, h7, h8, h9⟩ := hx
  have hcn : (s1.1 31 58).toInt = n := by rw [h3, nI_toInt (by omega)]
  have e0 : (0 : Int32).toInt = 0 := rfl
  have e5 : (5 : Int32).toInt = 5 := rfl
  refine M.ofG [some (.ref 31), some (.int s0), some (.int a), some (.int seed), none, none, none] (by decide) (Nat.le_of_ble_eq_true rfl) rfl ?_
  intro xp xe xs xm xa xb xme xc xad xA
  refine g_ald0 eX12_opening_0 ?_
  refine g_iconst (v := 0) (by decide) eX12_opening_1 ?_
  refine g_putI (ci := 11) (j := 18) rfl rfl (Nat.le_of_ble_eq_true rfl) (Nat.le_of_ble_eq_true rfl) (Nat.le_of_ble_eq_true rfl) rfl fl_X12_177 eX12_opening_2 ?_
  rw [hT]
  refine g_ald0 eX12_opening_5 ?_
  refine g_ild1 eX12_opening_6 ?_
  refine g_callVi (ci := 11) (w_isSealed _ s0) rfl (Nat.le_of_ble_eq_true rfl) (Nat.le_of_ble_eq_true rfl) rfl cv_X12_436 eX12_opening_7 ⟨Nat.le_of_ble_eq_true rfl, Nat.le_of_ble_eq_true rfl⟩ rfl rfl (Nat.le_of_ble_eq_true rfl) (fun r s1 h => ?_)
  obtain ⟨rfl, rfl⟩ := h
  refine g_if_eq eX12_opening_10 (fun ha => ?_) (fun ha => ?_)
  · rw [b2_eq0, hcn] at ha
    refine g_iconst (v := (-1)) (by decide) eX12_opening_22 ?_
    refine g_iret rfl eX12_opening_23 ⟨_, rfl, ?_⟩
    try dsimp only
    rw [if_neg (fun h => ha h.1)]
    exact ⟨rfl, rfl⟩
  · rw [b2_ne0, hcn] at ha
    refine g_ild2 eX12_opening_13 ?_
    refine g_iconst (v := 0) (by decide) eX12_opening_14 ?_
    refine g_iconst (v := 5) (by decide) eX12_opening_15 ?_
    refine g_callSi (w_in _ a 0 5) cs_X12_378 eX12_opening_16 ⟨Nat.le_of_ble_eq_true rfl, Nat.le_of_ble_eq_true rfl⟩ rfl rfl (Nat.le_of_ble_eq_true rfl) (fun r s1 h => ?_)
    obtain ⟨rfl, rfl⟩ := h
    rw [e0, e5]
    refine g_if_ne eX12_opening_19 (fun hb => ?_) (fun hb => ?_)
    · rw [b2_ne0] at hb
      have hC : isS n s0 ∧ 0 ≤ a.toInt ∧ a.toInt ≤ 5 := ⟨ha, hb⟩
      obtain ⟨s9, hs9, rfl⟩ := as_nI ha
      refine g_ald0 eX12_opening_24 ?_
      refine g_ild1 eX12_opening_25 ?_
      refine g_callVi (ci := 11) (w_openOf _ hx0 hod s9 hs9) rfl (Nat.le_of_ble_eq_true rfl) (Nat.le_of_ble_eq_true rfl) rfl cv_X12_455 eX12_opening_26 ⟨Nat.le_of_ble_eq_true rfl, Nat.le_of_ble_eq_true rfl⟩ rfl rfl (Nat.le_of_ble_eq_true rfl) (fun v s1 hv => ?_)
      obtain ⟨rfl, hv⟩ := hv
      refine g_ist4 rfl (Nat.le_of_ble_eq_true rfl) eX12_opening_29 ?_
      refine g_ild4 eX12_opening_31 ?_
      refine g_if_ge eX12_opening_33 (fun hvn => ?_) (fun hvn => ?_)
      · simp only [fa_le, Int32.reduceToInt] at hvn
        obtain ⟨tne, teq, tr⟩ := take_eq a hb
        have hvr : v.toInt < 13 := by rw [hv]; exact opM_lt s1 n (nI s9) h5
        clear h6 h7 h8 h9
        refine g_bipush (v := 60) (by decide) eX12_opening_39 ?_
        refine g_ild2 eX12_opening_41 ?_
        refine g_iconst (v := 1) (by decide) eX12_opening_42 ?_
        refine g_iadd eX12_opening_43 ?_
        refine g_idiv tne eX12_opening_44 ?_
        refine g_ist5 rfl (Nat.le_of_ble_eq_true rfl) eX12_opening_45 ?_
        generalize (60 : Int32) / (a + 1) = tk at teq ⊢
        generalize 60 / (a.toInt + 1) = TK at teq tr ⊢
        refine g_ald0 eX12_opening_47 ?_
        refine g_getI (ci := 11) (j := 65) rfl (Nat.le_of_ble_eq_true rfl) (Nat.le_of_ble_eq_true rfl) (Nat.le_of_ble_eq_true rfl) rfl fl_X12_458 eX12_opening_48 ?_
        refine g_ild5 eX12_opening_51 ?_
        refine g_icmp_ge eX12_opening_53 (fun hlt => ?_) (fun hlt => ?_)
        · rw [fa_le, teq] at hlt
          have e2b := two_one a hb
          have hlr := lot_rng seed 2 (n := 2 * a.toInt + 1) (by omega)
          refine g_ald0 eX12_opening_59 ?_
          refine g_dup rfl eX12_opening_60 ?_
          refine g_getI (ci := 11) (j := 65) rfl (Nat.le_of_ble_eq_true rfl) (Nat.le_of_ble_eq_true rfl) (Nat.le_of_ble_eq_true rfl) rfl fl_X12_458 eX12_opening_61 ?_
          refine g_ild5 eX12_opening_64 ?_
          refine g_isub eX12_opening_66 ?_
          refine g_putI (ci := 11) (j := 65) rfl rfl (Nat.le_of_ble_eq_true rfl) (Nat.le_of_ble_eq_true rfl) (Nat.le_of_ble_eq_true rfl) rfl fl_X12_458 eX12_opening_67 ?_
          refine g_ild4 eX12_opening_70 ?_
          refine g_ild3 eX12_opening_72 ?_
          refine g_iconst (v := 2) (by decide) eX12_opening_73 ?_
          refine g_iconst (v := 2) (by decide) eX12_opening_74 ?_
          refine g_ild2 eX12_opening_75 ?_
          refine g_imul eX12_opening_76 ?_
          refine g_iconst (v := 1) (by decide) eX12_opening_77 ?_
          refine g_iadd eX12_opening_78 ?_
          refine g_callSi (w_lotOf _ seed 2 _ (by rw [e2b]; omega)) cs_X12_382 eX12_opening_79 ⟨Nat.le_of_ble_eq_true rfl, Nat.le_of_ble_eq_true rfl⟩ rfl rfl (Nat.le_of_ble_eq_true rfl) (fun w u hw => ?_)
          obtain ⟨rfl, hw⟩ := hw
          rw [e2b] at hw
          have hv0 : 0 ≤ v.toInt := hvn
          generalize hLO : lotF seed 2 (2 * a.toInt + 1) = LO at hw hlr
          have hlo : LO < 11 := by clear hw; omega
          have e4 := add_noise v w a LO ⟨hv0, hvr⟩ hw ⟨hlr.1, hlo⟩ hb
          refine g_iadd eX12_opening_82 ?_
          refine g_ild2 eX12_opening_83 ?_
          refine g_isub eX12_opening_84 ?_
          refine g_ald0 eX12_opening_85 ?_
          refine g_getI (ci := 11) (j := 17) rfl (Nat.le_of_ble_eq_true rfl) (Nat.le_of_ble_eq_true rfl) (Nat.le_of_ble_eq_true rfl) rfl fl_X12_174 eX12_opening_86 ?_
          rw [sI_1, if_neg (by decide)]
          have hrm := rem32 (x := v + w - a) (y := s1.1 31 17) (by have := h5.1; omega)
          have hmr := tmod_rng (v + w - a).toInt (s1.1 31 17).toInt (by have := h5.1; omega)
          refine g_irem (fun e => by rw [fa_eq, z32] at e; have := h5.1; omega) eX12_opening_89 ?_
          refine g_ist6 rfl (Nat.le_of_ble_eq_true rfl) eX12_opening_90 ?_
          generalize (v + w - a) - (v + w - a) / s1.1 31 17 * s1.1 31 17 = R9 at hrm ⊢
          have fin : ∀ z : Int32, z.toInt = (v + w - a).toInt % (s1.1 31 17).toInt → z.toInt = opgF (opM s1 n (nI s9)) (s1.1 31 17).toInt a seed := by
            intro z hz
            unfold opgF
            rw [hLO, ← hv, hz, e4]
          have hbud2 : (s1.1 31 65 - tk).toInt = (s1.1 31 65).toInt - TK := by rw [fb_subI] <;> rw [teq] <;> omega
          refine g_ild6 eX12_opening_92 ?_
          refine g_if_ge eX12_opening_94 (fun hR => ?_) (fun hR => ?_)
          · simp only [fa_le, Int32.reduceToInt] at hR
            refine g_ild6 eX12_opening_107 ?_
            refine g_iret rfl eX12_opening_109 ⟨_, rfl, ?_⟩
            try dsimp only
            rw [if_pos hC, ← hv, if_neg (by omega), if_neg (by omega), hv]
            exact ⟨fin _ (by rw [hrm]; exact emod_of_tmod (by have := h5.1; omega) (by omega)), _, hbud2, rfl⟩
          · simp only [fa_le, Int32.reduceToInt] at hR
            refine g_ild6 eX12_opening_97 ?_
            refine g_ald0 eX12_opening_99 ?_
            refine g_getI (ci := 11) (j := 17) rfl (Nat.le_of_ble_eq_true rfl) (Nat.le_of_ble_eq_true rfl) (Nat.le_of_ble_eq_true rfl) rfl fl_X12_174 eX12_opening_100 ?_
            refine g_iadd eX12_opening_103 ?_
            refine g_goto eX12_opening_104 ?_
            rw [sI_1, if_neg (by decide)]
            refine g_iret rfl eX12_opening_109 ⟨_, rfl, ?_⟩
            try dsimp only
            rw [if_pos hC, ← hv, if_neg (by omega), if_neg (by omega), hv]
            refine ⟨fin _ ?_, _, hbud2, rfl⟩
            have h52 := h5.2
            have h51 := h5.1
            rw [fb_addI, hrm]
            · exact emod_of_tmod' (by omega) (by omega)
            · omega
            · omega
        · rw [fa_le, teq] at hlt
          refine g_bipush (v := (-4)) (by decide) eX12_opening_56 ?_
          refine g_iret rfl eX12_opening_58 ⟨_, rfl, ?_⟩
          try dsimp only
          rw [if_pos hC, ← hv, if_neg (by omega), if_pos (by omega)]
          exact ⟨rfl, rfl⟩
      · simp only [fa_le, Int32.reduceToInt] at hvn
        refine g_ild4 eX12_opening_36 ?_
        refine g_iret rfl eX12_opening_38 ⟨_, rfl, ?_⟩
        try dsimp only
        rw [if_pos hC, ← hv, if_pos (by omega)]
        exact ⟨rfl, rfl⟩
    · rw [b2_eq0] at hb
      refine g_iconst (v := (-1)) (by decide) eX12_opening_22 ?_
      refine g_iret rfl eX12_opening_23 ⟨_, rfl, ?_⟩
      try dsimp only
      rw [if_neg (fun h => hb h.2)]
      exact ⟨rfl, rfl⟩
/-- the reference' program q, in the class' codes -/
def mPg (t : Int) (st : St) (q : Nat) (K A B U : Nat → Int) (W I O : Nat) : Prop := st.1 42 q = nI W ∧ st.1 39 q = nI I ∧ st.1 40 q = nI O ∧ W ≤ 40 ∧ I ≤ 6 ∧ O ≤ 4 ∧ (∀ w, w < W → (st.1 43 (40 * q + w)).toInt = K w ∧ (st.1 44 (40 * q + w)).toInt = toldF (A w) ∧ (st.1 45 (40 * q + w)).toInt = if K w = 4 ∨ K w = 5 then B w else toldF (B w)) ∧ (∀ k, k < O → (st.1 41 (4 * q + k)).toInt = toldF (U k)) ∧ wksOK t I K A B W ∧ ∀ k, k < O → cOK W I (U k) ∨ (-t ≤ U k ∧ U k < 0)
theorem ix40 {q w : Nat} (hq : q < 4) (hw : w < 40) : (40 : Int32) * nI q + nI w = nI (40 * q + w) := by
  rw [show (40 : Int32) = nI 40 from rfl, pk_mul, nI_add]
theorem ix4 {q w : Nat} : (4 : Int32) * nI q + nI w = nI (4 * q + w) := by
  rw [show (4 : Int32) = nI 4 from rfl, pk_mul, nI_add]
theorem w_works (st s1 : St) (hT : sI st 31 18 0 = s1) (np : Nat) (hn : s1.1 31 19 = nI np) (h4 : np ≤ 4) (x : Int32) : Mi l D cy 1 YX12_works [.ref 31, .int x] st (fun r u => u = s1 ∧ r = if isS np x then s1.1 42 (qI x) else -1) := by
  have hcn : (s1.1 31 19).toInt = np := by rw [hn, nI_toInt (by omega)]
  refine M.ofG [some (.ref 31), some (.int x)] (by decide) (Nat.le_of_ble_eq_true rfl) rfl ?_
  intro xp xe xs xm xa xb xme xc xad xA
  refine g_ald0 eX12_works_0 ?_
  refine g_iconst (v := 0) (by decide) eX12_works_1 ?_
  refine g_putI (ci := 11) (j := 18) rfl rfl (Nat.le_of_ble_eq_true rfl) (Nat.le_of_ble_eq_true rfl) (Nat.le_of_ble_eq_true rfl) rfl fl_X12_177 eX12_works_2 ?_
  rw [hT]
  refine g_ald0 eX12_works_5 ?_
  refine g_ild1 eX12_works_6 ?_
  refine g_callVi (ci := 11) (w_isProgram _ x) rfl (Nat.le_of_ble_eq_true rfl) (Nat.le_of_ble_eq_true rfl) rfl cv_X12_461 eX12_works_7 ⟨Nat.le_of_ble_eq_true rfl, Nat.le_of_ble_eq_true rfl⟩ rfl rfl (Nat.le_of_ble_eq_true rfl) (fun r s1 h => ?_)
  obtain ⟨rfl, rfl⟩ := h
  refine g_if_eq eX12_works_10 (fun hb => ?_) (fun hb => ?_)
  · rw [b2_eq0, hcn] at hb
    refine g_iconst (v := (-1)) (by decide) eX12_works_22 ?_
    exact g_iret rfl eX12_works_23 ⟨_, rfl, ⟨rfl, by rw [if_neg hb]⟩⟩
  · rw [b2_ne0, hcn] at hb
    refine g_ald0 eX12_works_13 ?_
    refine g_getR (ci := 11) (j := 24) rfl (Nat.le_of_ble_eq_true rfl) (Nat.le_of_ble_eq_true rfl) (Nat.le_of_ble_eq_true rfl) rfl rfl fl_X12_46 eX12_works_14 ?_
    refine g_ild1 eX12_works_17 ?_
    refine g_iald rfl (Nat.le_of_ble_eq_true rfl) (vin (n := 5) (by omega) (by omega)) eX12_works_18 ?_
    refine g_goto eX12_works_19 ?_
    exact g_iret rfl eX12_works_23 ⟨_, rfl, ⟨rfl, by rw [if_pos hb]; rfl⟩⟩
theorem w_isLaying (st : St) (q : Nat) (hq : q < 4) (W : Nat) (hW : st.1 42 q = nI W) (h40 : W ≤ 40) (x : Int32) : Mi l D cy 1 YX12_isLaying [.ref 31, .int (nI q), .int x] st (fun r u => u = st ∧ r = b2 (0 ≤ x.toInt ∧ x.toInt < layN W)) := by
  have hc : (nI q).toNatClampNeg = q := nI_clamp (by omega)
  have hwt : (nI W).toInt = W := nI_toInt (by omega)
  have hl1 := layN_pos W
  have hl2 := layN_le W
  have e0 : (0 : Int32).toInt = 0 := rfl
  refine M.ofG [some (.ref 31), some (.int (nI q)), some (.int x)] (by decide) (Nat.le_of_ble_eq_true rfl) rfl ?_
  intro xp xe xs xm xa xb xme xc xad xA
  have fin : ∀ z : Nat, z ≤ 12 → layN W = 2 ^ z → G xp l xe (rmd (1)) xs xm xa xb xme xc D cy xad xA (YX12_isLaying.2.1, YX12_isLaying.1.cls, YX12_isLaying.2.2.1, YX12_isLaying.2.2.2) (Pi (fun (r : Int32) (u : St) => u = st ∧ r = b2 (0 ≤ x.toInt ∧ x.toInt < layN W))) 25 ([some (.ref 31), some (.int (nI q)), some (.int x)]) ([.int (nI z), .int 1, .int 0, .int x]) (st) := by
    intro z hz he
    have es := shl_pow (m0 := z) (by omega)
    have es1 : ((1 : Int32) <<< (nI z &&& 31) - 1).toInt = layN W - 1 := by rw [fb_subI] <;> rw [es, o32] <;> omega
    refine g_ishl eX12_isLaying_25 ?_
    refine g_iconst (v := 1) (by decide) eX12_isLaying_26 ?_
    refine g_isub eX12_isLaying_27 ?_
    refine g_callSi (w_in _ x 0 _) cs_X12_378 eX12_isLaying_28 ⟨Nat.le_of_ble_eq_true rfl, Nat.le_of_ble_eq_true rfl⟩ rfl rfl (Nat.le_of_ble_eq_true rfl) (fun r st h => ?_)
    obtain ⟨rfl, rfl⟩ := h
    rw [es1, e0]
    refine g_zret (ty := .boolean) rfl (by unfold b2; split <;> rfl) eX12_isLaying_31 ⟨_, rfl, rfl, ?_⟩
    unfold b2
    by_cases h : 0 ≤ x.toInt ∧ x.toInt < layN W
    · rw [if_pos h, if_pos (by omega)]
    · rw [if_neg h, if_neg (by omega)]
  refine g_ild2 eX12_isLaying_0 ?_
  refine g_iconst (v := 0) (by decide) eX12_isLaying_1 ?_
  refine g_iconst (v := 1) (by decide) eX12_isLaying_2 ?_
  refine g_ald0 eX12_isLaying_3 ?_
  refine g_getR (ci := 11) (j := 24) rfl (Nat.le_of_ble_eq_true rfl) (Nat.le_of_ble_eq_true rfl) (Nat.le_of_ble_eq_true rfl) rfl rfl fl_X12_46 eX12_isLaying_4 ?_
  refine g_ild1 eX12_isLaying_7 ?_
  refine g_iald rfl (Nat.le_of_ble_eq_true rfl) (vp_in_nI (n := q) (N := 5) (by omega) (by decide)) eX12_isLaying_8 ?_
  refine g_bipush (v := 12) (by decide) eX12_isLaying_9 ?_
  rw [hc, hW]
  refine g_icmp_ge eX12_isLaying_11 (fun hb => ?_) (fun hb => ?_)
  · simp only [fa_le, Int32.reduceToInt, hwt] at hb
    refine g_bipush (v := 12) (by decide) eX12_isLaying_23 ?_
    refine fin 12 (by decide) ?_
    unfold layN
    congr 1
    omega
  · simp only [fa_le, Int32.reduceToInt, hwt] at hb
    refine g_ald0 eX12_isLaying_14 ?_
    refine g_getR (ci := 11) (j := 24) rfl (Nat.le_of_ble_eq_true rfl) (Nat.le_of_ble_eq_true rfl) (Nat.le_of_ble_eq_true rfl) rfl rfl fl_X12_46 eX12_isLaying_15 ?_
    refine g_ild1 eX12_isLaying_18 ?_
    refine g_iald rfl (Nat.le_of_ble_eq_true rfl) (vp_in_nI (n := q) (N := 5) (by omega) (by decide)) eX12_isLaying_19 ?_
    refine g_goto eX12_isLaying_20 ?_
    rw [hc, hW]
    refine fin W (by omega) ?_
    unfold layN
    congr 1
    omega
end MODE
