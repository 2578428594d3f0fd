/-! even: the model -/
section EVENM
variable {l : Launch} {D : va_G} {cy : Nat → ClassId}
theorem w_even (st s1 : St) (hT : sI st 31 18 0 = s1) {nk n : Nat} (hx : mOK s1 nk n) (k m0 w : Int32) : Mi l D cy 3 YX12_even [.ref 31, .int k, .int m0, .int w] st (fun r u => if isS nk k ∧ (0 ≤ m0.toInt ∧ m0.toInt < (s1.1 31 17).toInt) ∧ 2 ≤ w.toInt ∧ w.toInt ≤ 16 then (∃ f, u = sR s1 82 f) ∧ r.toInt = evenF (mP s1 (qI k)) (s1.1 64 (qI k)).toInt (s1.1 65 (qI k)).toInt (s1.1 31 17).toInt m0.toInt (qI w) else r = -1 ∧ u = s1) := by
  obtain ⟨x1, x2, x3, x4, x5, x6, x7, x8, x9⟩ := hx
  have hkc : (s1.1 31 53).toInt = nk := by rw [x1, nI_toInt (by omega)]
  refine M.ofG [some (.ref 31), some (.int k), some (.int m0), some (.int w), none, none, none] (by decide) (Nat.le_of_ble_eq_true rfl) rfl ?_
  intro xp xe xs xm xa xb xme xc xad xA
  have bad : ¬ (isS nk k ∧ (0 ≤ m0.toInt ∧ m0.toInt < (s1.1 31 17).toInt) ∧ 2 ≤ w.toInt ∧ w.toInt ≤ 16) → G xp l xe (rmd (3)) xs xm xa xb xme xc D cy xad xA (YX12_even.2.1, YX12_even.1.cls, YX12_even.2.2.1, YX12_even.2.2.2) (Pi (fun (r : Int32) (u : St) => if isS nk k ∧ (0 ≤ m0.toInt ∧ m0.toInt < (s1.1 31 17).toInt) ∧ 2 ≤ w.toInt ∧ w.toInt ≤ 16 then (∃ f, u = sR s1 82 f) ∧ r.toInt = evenF (mP s1 (qI k)) (s1.1 64 (qI k)).toInt (s1.1 65 (qI k)).toInt (s1.1 31 17).toInt m0.toInt (qI w) else r = -1 ∧ u = s1)) 31 ([some (.ref 31), some (.int k), some (.int m0), some (.int w), none, none, none]) ([]) (s1) := by
    intro hb
    refine g_iconst (v := (-1)) (by decide) eX12_even_31 ?_
    refine g_iret rfl eX12_even_32 ⟨_, rfl, ?_⟩
    try dsimp only
    rw [if_neg hb]
    exact ⟨rfl, rfl⟩
  refine g_ald0 eX12_even_0 ?_
  refine g_iconst (v := 0) (by decide) eX12_even_1 ?_
  refine g_putI (ci := 11) (j := 18) rfl rfl (Nat.le_of_ble_eq_true rfl) (Nat.le_of_ble_eq_true rfl) (Nat.le_of_ble_eq_true rfl) rfl fl_X12_177 eX12_even_2 ?_
  rw [hT]
  refine g_ald0 eX12_even_5 ?_
  refine g_ild1 eX12_even_6 ?_
  refine g_callVi (ci := 11) (w_isKey _ k) rfl (Nat.le_of_ble_eq_true rfl) (Nat.le_of_ble_eq_true rfl) rfl cv_X12_388 eX12_even_7 ⟨Nat.le_of_ble_eq_true rfl, Nat.le_of_ble_eq_true rfl⟩ rfl rfl (Nat.le_of_ble_eq_true rfl) (fun r s1 h => ?_)
  obtain ⟨rfl, rfl⟩ := h
  rw [hkc]
  refine g_if_eq eX12_even_10 (fun hb => ?_) (fun hb => ?_)
  · rw [b2_eq0] at hb
    exact bad (fun h => hb h.1)
  · rw [b2_ne0] at hb
    refine g_ald0 eX12_even_13 ?_
    refine g_ild2 eX12_even_14 ?_
    refine g_callVi (ci := 11) (w_isNumber _ m0) rfl (Nat.le_of_ble_eq_true rfl) (Nat.le_of_ble_eq_true rfl) rfl cv_X12_415 eX12_even_15 ⟨Nat.le_of_ble_eq_true rfl, Nat.le_of_ble_eq_true rfl⟩ rfl rfl (Nat.le_of_ble_eq_true rfl) (fun r s1 h => ?_)
    obtain ⟨rfl, rfl⟩ := h
    refine g_if_eq eX12_even_18 (fun hb2 => ?_) (fun hb2 => ?_)
    · rw [b2_eq0] at hb2
      exact bad (fun h => hb2 h.2.1)
    · rw [b2_ne0] at hb2
      refine g_ild3 eX12_even_21 ?_
      refine g_iconst (v := 2) (by decide) eX12_even_22 ?_
      refine g_bipush (v := 16) (by decide) eX12_even_23 ?_
      refine g_callSi (w_in _ w 2 16) cs_X12_378 eX12_even_25 ⟨Nat.le_of_ble_eq_true rfl, Nat.le_of_ble_eq_true rfl⟩ rfl rfl (Nat.le_of_ble_eq_true rfl) (fun r s1 h => ?_)
      obtain ⟨rfl, rfl⟩ := h
      refine g_if_ne eX12_even_28 (fun hb3 => ?_) (fun hb3 => ?_)
      · rw [b2_ne0] at hb3
        have hb4 : 2 ≤ w.toInt ∧ w.toInt ≤ 16 := hb3
        have hOK : isS nk k ∧ (0 ≤ m0.toInt ∧ m0.toInt < (s1.1 31 17).toInt) ∧ 2 ≤ w.toInt ∧ w.toInt ≤ 16 := ⟨hb, hb2, hb4⟩
        obtain ⟨i, hik, rfl⟩ := as_nI hb
        have hi : i < 4 := by omega
        have e : qI (nI i) = i := nI_clamp (by omega)
        have eC : (nI i).toNatClampNeg = i := e
        obtain ⟨w, hw, rfl⟩ := as_nI (x := w) (n := 17) (by omega)
        have ew : qI (nI w) = w := nI_clamp (by omega)
        clear hb3
        rw [nI_toInt (by omega)] at hb4
        have hky := x6 i hik
        have hky9 := hky
        obtain ⟨k1, k2, k3, k4, k5, k6⟩ := hky
        obtain ⟨Q, hQ⟩ : ∃ Q : Nat, Q = (s1.1 64 i).toInt.toNat := ⟨_, rfl⟩
        obtain ⟨b, hbb⟩ : ∃ b : Int, b = (s1.1 65 i).toInt := ⟨_, rfl⟩
        have eQ : s1.1 64 i = nI Q := by rw [fa_eq, nI_toInt (by omega)]; omega
        have hr64 : ∀ f : Nat → Int32, (sR s1 82 f).1 64 = s1.1 64 := fun f => sR_ne (by decide)
        have hr65 : ∀ f : Nat → Int32, (sR s1 82 f).1 65 = s1.1 65 := fun f => sR_ne (by decide)
        generalize hF : evF (mP s1 i) (s1.1 64 i).toInt (s1.1 65 i).toInt (s1.1 31 17).toInt m0.toInt w = F
        have hend : ∀ f : Nat → Int32, (∀ v, v < w → f v = nI (evR F (2 * b + 1).toNat Q v)) → ∀ y5 y6 : Option Value, G xp l xe (rmd (3)) xs xm xa xb xme xc D cy xad xA (YX12_even.2.1, YX12_even.1.cls, YX12_even.2.2.1, YX12_even.2.2.2) (Pi (fun (r : Int32) (u : St) => if isS nk (nI i) ∧ (0 ≤ m0.toInt ∧ m0.toInt < (s1.1 31 17).toInt) ∧ 2 ≤ (nI w).toInt ∧ (nI w).toInt ≤ 16 then (∃ f, u = sR s1 82 f) ∧ r.toInt = evenF (mP s1 (qI (nI i))) (s1.1 64 (qI (nI i))).toInt (s1.1 65 (qI (nI i))).toInt (s1.1 31 17).toInt m0.toInt (qI (nI w)) else r = -1 ∧ u = s1)) 127 ([some (.ref 31), some (.int (nI i)), some (.int m0), some (.int (nI w)), some (.int (nI Q)), y5, y6]) ([]) (sR s1 82 f) := by
          intro f hf y5 y6
          have hcc : evV (mP s1 i) (s1.1 64 i).toInt (s1.1 65 i).toInt (s1.1 31 17).toInt m0.toInt w = evR F (2 * b + 1).toNat Q := by
            funext v
            unfold evV
            rw [hF, ← hbb, ← hQ]
          have hcl : ∀ v, evR F (2 * b + 1).toNat Q v ≤ 21000 := fun v => by rw [← hcc]; exact evV_le k4 (by omega) k6 k5 v
          generalize evR F (2 * b + 1).toNat Q = cc at hf hcc hcl
          have hml : ∀ a, mxF cc a ≤ 21000 := fun a => mxF_le (fun j _ => hcl j)
          have hmn : ∀ a, mnF cc a ≤ 21000 := fun a => Nat.le_trans (mn_le_mx cc a) (hml a)
          have step : ∀ (a : Nat) (x y : Nat), a < w → x ≤ 21000 → y ≤ 21000 → G xp l xe (rmd (3)) xs xm xa xb xme xc D cy xad xA (YX12_even.2.1, YX12_even.1.cls, YX12_even.2.2.1, YX12_even.2.2.2) (Pi (fun (r : Int32) (u : St) => if isS nk (nI i) ∧ (0 ≤ m0.toInt ∧ m0.toInt < (s1.1 31 17).toInt) ∧ 2 ≤ (nI w).toInt ∧ (nI w).toInt ≤ 16 then (∃ f, u = sR s1 82 f) ∧ r.toInt = evenF (mP s1 (qI (nI i))) (s1.1 64 (qI (nI i))).toInt (s1.1 65 (qI (nI i))).toInt (s1.1 31 17).toInt m0.toInt (qI (nI w)) else r = -1 ∧ u = s1)) 141 ([some (.ref 31), some (.int (nI i)), some (.int m0), some (.int (nI w)), some (.int (nI (max x (cc a)))), some (.int (nI (min y (cc a)))), some (.int (nI (a + 1)))]) ([]) (sR s1 82 f) → G xp l xe (rmd (3)) xs xm xa xb xme xc D cy xad xA (YX12_even.2.1, YX12_even.1.cls, YX12_even.2.2.1, YX12_even.2.2.2) (Pi (fun (r : Int32) (u : St) => if isS nk (nI i) ∧ (0 ≤ m0.toInt ∧ m0.toInt < (s1.1 31 17).toInt) ∧ 2 ≤ (nI w).toInt ∧ (nI w).toInt ≤ 16 then (∃ f, u = sR s1 82 f) ∧ r.toInt = evenF (mP s1 (qI (nI i))) (s1.1 64 (qI (nI i))).toInt (s1.1 65 (qI (nI i))).toInt (s1.1 31 17).toInt m0.toInt (qI (nI w)) else r = -1 ∧ u = s1)) 141 ([some (.ref 31), some (.int (nI i)), some (.int m0), some (.int (nI w)), some (.int (nI x)), some (.int (nI y)), some (.int (nI a))]) ([]) (sR s1 82 f) := by
            intro a x y haw hx hy hnext
            have hca : (nI a).toNatClampNeg = a := nI_clamp (by omega)
            have h3 := hcl a
            have hin : vp_in (nI a) (ln 82) := vp_in_nI (n := a) (N := 16) (by omega) (by decide)
            have low : ∀ x2, x2 = max x (cc a) → G xp l xe (rmd (3)) xs xm xa xb xme xc D cy xad xA (YX12_even.2.1, YX12_even.1.cls, YX12_even.2.2.1, YX12_even.2.2.2) (Pi (fun (r : Int32) (u : St) => if isS nk (nI i) ∧ (0 ≤ m0.toInt ∧ m0.toInt < (s1.1 31 17).toInt) ∧ 2 ≤ (nI w).toInt ∧ (nI w).toInt ≤ 16 then (∃ f, u = sR s1 82 f) ∧ r.toInt = evenF (mP s1 (qI (nI i))) (s1.1 64 (qI (nI i))).toInt (s1.1 65 (qI (nI i))).toInt (s1.1 31 17).toInt m0.toInt (qI (nI w)) else r = -1 ∧ u = s1)) 168 ([some (.ref 31), some (.int (nI i)), some (.int m0), some (.int (nI w)), some (.int (nI x2)), some (.int (nI y)), some (.int (nI a))]) ([]) (sR s1 82 f) := by
              intro x2 hx2
              subst hx2
              refine g_ald0 eX12_even_168 ?_
              refine g_getR (ci := 11) (j := 77) rfl (Nat.le_of_ble_eq_true rfl) (Nat.le_of_ble_eq_true rfl) (Nat.le_of_ble_eq_true rfl) rfl rfl fl_X12_167 eX12_even_169 ?_
              refine g_ild6 eX12_even_172 ?_
              refine g_iald rfl (Nat.le_of_ble_eq_true rfl) hin eX12_even_174 ?_
              refine g_ild5 eX12_even_175 ?_
              rw [hca, sR_at, hf _ haw]
              refine g_icmp_ge eX12_even_177 (fun hb6 => ?_) (fun hb6 => ?_)
              · rw [nI_leI (by omega) (by omega)] at hb6
                refine g_inc6 rfl (Nat.le_of_ble_eq_true rfl) rfl eX12_even_189 ?_
                refine g_goto eX12_even_192 ?_
                rw [inc1]
                rw [show min y (cc a) = y by omega] at hnext
                exact hnext
              · rw [nI_leI (by omega) (by omega)] at hb6
                refine g_ald0 eX12_even_180 ?_
                refine g_getR (ci := 11) (j := 77) rfl (Nat.le_of_ble_eq_true rfl) (Nat.le_of_ble_eq_true rfl) (Nat.le_of_ble_eq_true rfl) rfl rfl fl_X12_167 eX12_even_181 ?_
                refine g_ild6 eX12_even_184 ?_
                refine g_iald rfl (Nat.le_of_ble_eq_true rfl) hin eX12_even_186 ?_
                rw [hca, sR_at, hf _ haw]
                refine g_ist5 rfl (Nat.le_of_ble_eq_true rfl) eX12_even_187 ?_
                refine g_inc6 rfl (Nat.le_of_ble_eq_true rfl) rfl eX12_even_189 ?_
                refine g_goto eX12_even_192 ?_
                rw [inc1]
                rw [show min y (cc a) = cc a by omega] at hnext
                exact hnext
            refine g_ild6 eX12_even_141 ?_
            refine g_ild3 eX12_even_143 ?_
            refine g_icmp_ge eX12_even_144 (fun hb5 => ?_) (fun hb5 => ?_)
            · exact absurd hb5 (nI_ge (by omega) (by omega))
            · refine g_ald0 eX12_even_147 ?_
              refine g_getR (ci := 11) (j := 77) rfl (Nat.le_of_ble_eq_true rfl) (Nat.le_of_ble_eq_true rfl) (Nat.le_of_ble_eq_true rfl) rfl rfl fl_X12_167 eX12_even_148 ?_
              refine g_ild6 eX12_even_151 ?_
              refine g_iald rfl (Nat.le_of_ble_eq_true rfl) hin eX12_even_153 ?_
              refine g_ild4 eX12_even_154 ?_
              rw [hca, sR_at, hf _ haw]
              refine g_icmp_le eX12_even_156 (fun hb6 => ?_) (fun hb6 => ?_)
              · rw [nI_leI (by omega) (by omega)] at hb6
                exact low x (by omega)
              · rw [nI_leI (by omega) (by omega)] at hb6
                refine g_ald0 eX12_even_159 ?_
                refine g_getR (ci := 11) (j := 77) rfl (Nat.le_of_ble_eq_true rfl) (Nat.le_of_ble_eq_true rfl) (Nat.le_of_ble_eq_true rfl) rfl rfl fl_X12_167 eX12_even_160 ?_
                refine g_ild6 eX12_even_163 ?_
                refine g_iald rfl (Nat.le_of_ble_eq_true rfl) hin eX12_even_165 ?_
                rw [hca, sR_at, hf _ haw]
                refine g_ist4 rfl (Nat.le_of_ble_eq_true rfl) eX12_even_166 ?_
                exact low (cc a) (by omega)
          have loop : ∀ (d a : Nat), a + 1 + d = w → G xp l xe (rmd (3)) xs xm xa xb xme xc D cy xad xA (YX12_even.2.1, YX12_even.1.cls, YX12_even.2.2.1, YX12_even.2.2.2) (Pi (fun (r : Int32) (u : St) => if isS nk (nI i) ∧ (0 ≤ m0.toInt ∧ m0.toInt < (s1.1 31 17).toInt) ∧ 2 ≤ (nI w).toInt ∧ (nI w).toInt ≤ 16 then (∃ f, u = sR s1 82 f) ∧ r.toInt = evenF (mP s1 (qI (nI i))) (s1.1 64 (qI (nI i))).toInt (s1.1 65 (qI (nI i))).toInt (s1.1 31 17).toInt m0.toInt (qI (nI w)) else r = -1 ∧ u = s1)) 141 ([some (.ref 31), some (.int (nI i)), some (.int m0), some (.int (nI w)), some (.int (nI (mxF cc a))), some (.int (nI (mnF cc a))), some (.int (nI (a + 1)))]) ([]) (sR s1 82 f) := by
            intro d
            induction d with
            | zero =>
              intro a ha
              refine g_ild6 eX12_even_141 ?_
              refine g_ild3 eX12_even_143 ?_
              refine g_icmp_ge eX12_even_144 (fun hb5 => ?_) (fun hb5 => ?_)
              · refine g_ild4 eX12_even_195 ?_
                refine g_ild5 eX12_even_197 ?_
                refine g_isub eX12_even_199 ?_
                refine g_iret rfl eX12_even_200 ⟨_, rfl, ?_⟩
                try dsimp only
                rw [if_pos hOK, e, ew]
                refine ⟨⟨f, rfl⟩, ?_⟩
                have h1 := hml a
                have h2 := hmn a
                unfold evenF
                rw [fb_subI (by rw [nI_toInt (by omega), nI_toInt (by omega)]; omega) (by rw [nI_toInt (by omega), nI_toInt (by omega)]; omega), nI_toInt (by omega), nI_toInt (by omega), hcc, show w - 1 = a by omega]
              · exact absurd (nI_le (by omega) (by omega)) hb5
            | succ d ih =>
              intro a ha
              exact step (a + 1) _ _ (by omega) (hml a) (hmn a) (ih (a + 1) (by omega))
          refine g_iconst (v := 0) (by decide) eX12_even_127 ?_
          refine g_ist4 rfl (Nat.le_of_ble_eq_true rfl) eX12_even_128 ?_
          refine g_ald0 eX12_even_130 ?_
          refine g_getR (ci := 11) (j := 77) rfl (Nat.le_of_ble_eq_true rfl) (Nat.le_of_ble_eq_true rfl) (Nat.le_of_ble_eq_true rfl) rfl rfl fl_X12_167 eX12_even_131 ?_
          refine g_iconst (v := 0) (by decide) eX12_even_134 ?_
          refine g_iald rfl (Nat.le_of_ble_eq_true rfl) (vp_in_nI (n := 0) (N := 16) (by omega) (by decide)) eX12_even_135 ?_
          rw [show (sR s1 82 f).1 82 (Int32.toNatClampNeg 0) = nI (cc 0) by rw [sR_at]; exact hf 0 (by omega)]
          refine g_ist5 rfl (Nat.le_of_ble_eq_true rfl) eX12_even_136 ?_
          refine g_iconst (v := 0) (by decide) eX12_even_138 ?_
          refine g_ist6 rfl (Nat.le_of_ble_eq_true rfl) eX12_even_139 ?_
          refine step 0 0 (cc 0) (by omega) (by omega) (hcl 0) ?_
          have go := loop (w - 1) 0 (by omega)
          rw [show mxF cc 0 = max 0 (cc 0) from (Nat.zero_max _).symm, show mnF cc 0 = min (cc 0) (cc 0) from (Nat.min_self _).symm] at go
          exact go
        have outer : ∀ (d r : Nat) (f : Nat → Int32) (y5 : Option Value), r + d = Q → (∀ v, v < w → f v = nI (evR F (2 * b + 1).toNat r v)) → G xp l xe (rmd (3)) xs xm xa xb xme xc D cy xad xA (YX12_even.2.1, YX12_even.1.cls, YX12_even.2.2.1, YX12_even.2.2.2) (Pi (fun (r : Int32) (u : St) => if isS nk (nI i) ∧ (0 ≤ m0.toInt ∧ m0.toInt < (s1.1 31 17).toInt) ∧ 2 ≤ (nI w).toInt ∧ (nI w).toInt ≤ 16 then (∃ f, u = sR s1 82 f) ∧ r.toInt = evenF (mP s1 (qI (nI i))) (s1.1 64 (qI (nI i))).toInt (s1.1 65 (qI (nI i))).toInt (s1.1 31 17).toInt m0.toInt (qI (nI w)) else r = -1 ∧ u = s1)) 59 ([some (.ref 31), some (.int (nI i)), some (.int m0), some (.int (nI w)), some (.int (nI r)), y5, none]) ([]) (sR s1 82 f) := by
          intro d
          induction d with
          | zero =>
            intro r f y5 hr hf
            refine g_ild4 eX12_even_59 ?_
            refine g_ald0 eX12_even_61 ?_
            refine g_getR (ci := 11) (j := 55) rfl (Nat.le_of_ble_eq_true rfl) (Nat.le_of_ble_eq_true rfl) (Nat.le_of_ble_eq_true rfl) rfl rfl fl_X12_112 eX12_even_62 ?_
            refine g_ild1 eX12_even_65 ?_
            refine g_iald rfl (Nat.le_of_ble_eq_true rfl) (vp_in_nI (n := i) (N := 4) hi (by decide)) eX12_even_66 ?_
            rw [hr64, eC, eQ]
            refine g_icmp_ge eX12_even_67 (fun hb5 => ?_) (fun hb5 => ?_)
            · have hrQ : r = Q := by omega
              subst hrQ
              exact hend f hf y5 none
            · exact absurd (nI_le (by omega) (by omega)) hb5
          | succ d ih =>
            intro r f y5 hr hf
            refine g_ild4 eX12_even_59 ?_
            refine g_ald0 eX12_even_61 ?_
            refine g_getR (ci := 11) (j := 55) rfl (Nat.le_of_ble_eq_true rfl) (Nat.le_of_ble_eq_true rfl) (Nat.le_of_ble_eq_true rfl) rfl rfl fl_X12_112 eX12_even_62 ?_
            refine g_ild1 eX12_even_65 ?_
            refine g_iald rfl (Nat.le_of_ble_eq_true rfl) (vp_in_nI (n := i) (N := 4) hi (by decide)) eX12_even_66 ?_
            rw [hr64, eC, eQ]
            refine g_icmp_ge eX12_even_67 (fun hb5 => ?_) (fun hb5 => ?_)
            · exact absurd hb5 (nI_ge (by omega) (by omega))
            · refine g_ald0 eX12_even_70 ?_
              refine g_getR (ci := 11) (j := 56) rfl (Nat.le_of_ble_eq_true rfl) (Nat.le_of_ble_eq_true rfl) (Nat.le_of_ble_eq_true rfl) rfl rfl fl_X12_115 eX12_even_71 ?_
              refine g_ild1 eX12_even_74 ?_
              refine g_iald rfl (Nat.le_of_ble_eq_true rfl) (vp_in_nI (n := i) (N := 4) hi (by decide)) eX12_even_75 ?_
              rw [hr65, eC]
              have hneg : (-(s1.1 65 i)).toInt = -(s1.1 65 i).toInt := fb_negI (by omega)
              refine g_ineg eX12_even_76 ?_
              refine g_ist5 rfl (Nat.le_of_ble_eq_true rfl) eX12_even_77 ?_
              have inner : ∀ (dd e : Nat) (ee : Int32) (f : Nat → Int32), e + dd = (2 * b + 1).toNat → ee.toInt = (e : Int) - b → (∀ v, v < w → f v = nI (evR F (2 * b + 1).toNat r v + fb_ct (fun x => decide (F r x = (v : Int))) e)) → G xp l xe (rmd (3)) xs xm xa xb xme xc D cy xad xA (YX12_even.2.1, YX12_even.1.cls, YX12_even.2.2.1, YX12_even.2.2.2) (Pi (fun (r : Int32) (u : St) => if isS nk (nI i) ∧ (0 ≤ m0.toInt ∧ m0.toInt < (s1.1 31 17).toInt) ∧ 2 ≤ (nI w).toInt ∧ (nI w).toInt ≤ 16 then (∃ f, u = sR s1 82 f) ∧ r.toInt = evenF (mP s1 (qI (nI i))) (s1.1 64 (qI (nI i))).toInt (s1.1 65 (qI (nI i))).toInt (s1.1 31 17).toInt m0.toInt (qI (nI w)) else r = -1 ∧ u = s1)) 79 ([some (.ref 31), some (.int (nI i)), some (.int m0), some (.int (nI w)), some (.int (nI r)), some (.int ee), none]) ([]) (sR s1 82 f) := by
                intro dd
                induction dd with
                | zero =>
                  intro e ee f he hee hf
                  refine g_ild5 eX12_even_79 ?_
                  refine g_ald0 eX12_even_81 ?_
                  refine g_getR (ci := 11) (j := 56) rfl (Nat.le_of_ble_eq_true rfl) (Nat.le_of_ble_eq_true rfl) (Nat.le_of_ble_eq_true rfl) rfl rfl fl_X12_115 eX12_even_82 ?_
                  refine g_ild1 eX12_even_85 ?_
                  refine g_iald rfl (Nat.le_of_ble_eq_true rfl) (vp_in_nI (n := i) (N := 4) hi (by decide)) eX12_even_86 ?_
                  rw [hr65, eC]
                  refine g_icmp_gt eX12_even_87 (fun hb6 => ?_) (fun hb6 => ?_)
                  · refine g_inc4 rfl (Nat.le_of_ble_eq_true rfl) rfl eX12_even_121 ?_
                    refine g_goto eX12_even_124 ?_
                    rw [inc1]
                    refine ih (r + 1) f _ (by omega) (fun v hv => ?_)
                    rw [hf v hv, evR_succ, show e = (2 * b + 1).toNat by omega]
                  · rw [fa_lt, hee] at hb6
                    exfalso
                    omega
                | succ dd ih2 =>
                  intro e ee f he hee hf
                  refine g_ild5 eX12_even_79 ?_
                  refine g_ald0 eX12_even_81 ?_
                  refine g_getR (ci := 11) (j := 56) rfl (Nat.le_of_ble_eq_true rfl) (Nat.le_of_ble_eq_true rfl) (Nat.le_of_ble_eq_true rfl) rfl rfl fl_X12_115 eX12_even_82 ?_
                  refine g_ild1 eX12_even_85 ?_
                  refine g_iald rfl (Nat.le_of_ble_eq_true rfl) (vp_in_nI (n := i) (N := 4) hi (by decide)) eX12_even_86 ?_
                  rw [hr65, eC]
                  refine g_icmp_gt eX12_even_87 (fun hb6 => ?_) (fun hb6 => ?_)
                  · rw [fa_lt, hee] at hb6
                    exfalso
                    omega
                  · refine g_ald0 eX12_even_90 ?_
                    refine g_getR (ci := 11) (j := 77) rfl (Nat.le_of_ble_eq_true rfl) (Nat.le_of_ble_eq_true rfl) (Nat.le_of_ble_eq_true rfl) rfl rfl fl_X12_167 eX12_even_91 ?_
                    refine g_ald0 eX12_even_94 ?_
                    refine g_ild1 eX12_even_95 ?_
                    refine g_ild4 eX12_even_96 ?_
                    refine g_i2l eX12_even_98 ?_
                    refine g_ild5 eX12_even_99 ?_
                    refine g_i2l eX12_even_101 ?_
                    refine g_ild2 eX12_even_102 ?_
                    refine g_callVl (ci := 11) (w_freshC _ i hi (by unfold mkOK; rw [sR_ne (by decide), sR_ne (by decide), sR_ne (by decide)]; exact hky9) (by rw [sR_ne (by decide)]; exact x5) (nI r).toInt64 ee.toInt64 m0 (by rw [tl, nI_toInt (by omega)]; omega) (by rw [tl]; omega) (by have := x5.2; omega)) rfl (Nat.le_of_ble_eq_true rfl) (Nat.le_of_ble_eq_true rfl) rfl cv_X12_404 eX12_even_103 ⟨Nat.le_of_ble_eq_true rfl, Nat.le_of_ble_eq_true rfl⟩ rfl rfl (Nat.le_of_ble_eq_true rfl) (fun z u h => ?_)
                    obtain ⟨rfl, hz⟩ := h
                    rw [sR_ne (by decide), sR_ne (by decide), sR_ne (by decide), tl, tl, nI_toInt (by omega), hee] at hz
                    have hm := maskF_rng (mP s1 i) (s1.1 64 i).toInt (s1.1 31 17).toInt m0.toInt (r : Int) ((e : Int) - b) (by have := pq_rng hky9; show 0 < (s1.1 63 i).toInt * (s1.1 64 i).toInt; omega)
                    have hpq := pq_rng hky9
                    have hz0 : 0 ≤ z.toInt := by rw [hz]; exact hm.1
                    have hw64 : (nI w).toInt64.toInt = w := by rw [tl, nI_toInt (by omega)]
                    refine g_ild3 eX12_even_106 ?_
                    refine g_i2l eX12_even_107 ?_
                    refine g_lrem (by rw [fa_eq64, hw64, z64]; omega) eX12_even_108 ?_
                    have hz2 : (z - z / (nI w).toInt64 * (nI w).toInt64).toInt = F r e := by
                      rw [rem64 (by rw [hw64]; omega), hw64, Int.tmod_eq_emod_of_nonneg hz0, hz, ← hF]
                      unfold evF
                      rw [← hbb]
                    generalize z - z / (nI w).toInt64 * (nI w).toInt64 = z2 at hz2
                    have hlo : 0 ≤ z2.toInt ∧ z2.toInt < w := by
                      rw [hz2, ← hF]
                      exact ⟨Int.emod_nonneg _ (by omega), Int.emod_lt_of_pos _ (by omega)⟩
                    have hz3 : z2.toInt32.toInt = z2.toInt := l2i (by omega) (by omega)
                    obtain ⟨j, hj, hj2⟩ := as_nI (x := z2.toInt32) (n := w) (by rw [hz3]; exact hlo)
                    have hz4 : F r e = (j : Int) := by rw [← hz2, ← hz3, hj2, nI_toInt (by omega)]
                    have hcj : (nI j).toNatClampNeg = j := nI_clamp (by omega)
                    refine g_l2i eX12_even_109 ?_
                    rw [hj2]
                    refine g_dup2 rfl rfl eX12_even_110 ?_
                    refine g_iald rfl (Nat.le_of_ble_eq_true rfl) (vp_in_nI (n := j) (N := 16) (by omega) (by decide)) eX12_even_111 ?_
                    refine g_iconst (v := 1) (by decide) eX12_even_112 ?_
                    refine g_iadd eX12_even_113 ?_
                    refine g_iast rfl (Nat.le_of_ble_eq_true rfl) (vp_in_nI (n := j) (N := 16) (by omega) (by decide)) eX12_even_114 ?_
                    rw [hcj, sI_sR, sR_at]
                    refine g_inc5 rfl (Nat.le_of_ble_eq_true rfl) rfl eX12_even_115 ?_
                    refine g_goto eX12_even_118 ?_
                    refine ih2 (e + 1) _ _ (by omega) ?_ (ev_step hf hz4)
                    rw [addK (Int32.ofInt 1) (k := 1) rfl (by omega) (by omega)]
                    omega
              refine inner (2 * b + 1).toNat 0 _ f (by omega) (by rw [hneg]; omega) (fun v hv => ?_)
              rw [hf v hv]
              rfl
        have zero : ∀ (d a : Nat) (f : Nat → Int32), a + d = w → (∀ v, v < a → f v = 0) → G xp l xe (rmd (3)) xs xm xa xb xme xc D cy xad xA (YX12_even.2.1, YX12_even.1.cls, YX12_even.2.2.1, YX12_even.2.2.2) (Pi (fun (r : Int32) (u : St) => if isS nk (nI i) ∧ (0 ≤ m0.toInt ∧ m0.toInt < (s1.1 31 17).toInt) ∧ 2 ≤ (nI w).toInt ∧ (nI w).toInt ≤ 16 then (∃ f, u = sR s1 82 f) ∧ r.toInt = evenF (mP s1 (qI (nI i))) (s1.1 64 (qI (nI i))).toInt (s1.1 65 (qI (nI i))).toInt (s1.1 31 17).toInt m0.toInt (qI (nI w)) else r = -1 ∧ u = s1)) 36 ([some (.ref 31), some (.int (nI i)), some (.int m0), some (.int (nI w)), some (.int (nI a)), none, none]) ([]) (sR s1 82 f) := by
          intro d
          induction d with
          | zero =>
            intro a f ha hf
            refine g_ild4 eX12_even_36 ?_
            refine g_ild3 eX12_even_38 ?_
            refine g_icmp_ge eX12_even_39 (fun hb5 => ?_) (fun hb5 => ?_)
            · refine g_iconst (v := 0) (by decide) eX12_even_56 ?_
              refine g_ist4 rfl (Nat.le_of_ble_eq_true rfl) eX12_even_57 ?_
              refine outer Q 0 f _ (by omega) (fun v hv => ?_)
              rw [hf v (by omega)]
              rfl
            · exact absurd (nI_le (by omega) (by omega)) hb5
          | succ d ih =>
            intro a f ha hf
            refine g_ild4 eX12_even_36 ?_
            refine g_ild3 eX12_even_38 ?_
            refine g_icmp_ge eX12_even_39 (fun hb5 => ?_) (fun hb5 => ?_)
            · exact absurd hb5 (nI_ge (by omega) (by omega))
            · refine g_ald0 eX12_even_42 ?_
              refine g_getR (ci := 11) (j := 77) rfl (Nat.le_of_ble_eq_true rfl) (Nat.le_of_ble_eq_true rfl) (Nat.le_of_ble_eq_true rfl) rfl rfl fl_X12_167 eX12_even_43 ?_
              refine g_ild4 eX12_even_46 ?_
              refine g_iconst (v := 0) (by decide) eX12_even_48 ?_
              refine g_iast rfl (Nat.le_of_ble_eq_true rfl) (vp_in_nI (n := a) (N := 16) (by omega) (by decide)) eX12_even_49 ?_
              rw [nI_clamp (by omega), sI_sR]
              refine g_inc4 rfl (Nat.le_of_ble_eq_true rfl) rfl eX12_even_50 ?_
              refine g_goto eX12_even_53 ?_
              rw [inc1]
              refine ih (a + 1) _ (by omega) (fun v hv => ?_)
              by_cases h : v = a
              · rw [h]; exact if_pos rfl
              · rw [show upd f a 0 v = f v from if_neg h]; exact hf v (by omega)
        refine g_iconst (v := 0) (by decide) eX12_even_33 ?_
        refine g_ist4 rfl (Nat.le_of_ble_eq_true rfl) eX12_even_34 ?_
        have e0 : s1 = sR s1 82 (s1.1 82) := by rw [sR_same]
        have go := zero w 0 (s1.1 82) (by omega) (fun v hv => by omega)
        rw [← e0] at go
        exact go
      · rw [b2_eq0] at hb3
        exact bad (fun h => hb3 h.2.2)
end EVENM
