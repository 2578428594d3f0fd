/-! SealedSumsModel: opens, openly -/
section MODM
variable {l : Launch} {D : va_G} {cy : Nat → ClassId}
theorem runSl_succ (K A B : Nat → Int) (t : Int) (s : Nat → Int) (n j : Nat) : runSl K A B t s (n + 1) j = if j = n then workF (K n) (runSl K A B t s n (A n).toNat) (if K n = 4 ∨ K n = 5 then B n else runSl K A B t s n (B n).toNat) t else runSl K A B t s n j := rfl
set_option maxHeartbeats 4000000 in
theorem w_opens (st : St) (q : Nat) (hq : q < 4) {t : Int} (hte : t = (st.1 31 17).toInt) (ht : tOK (st.1 31 17)) {K A B U : Nat → Int} {W I O : Nat} (hp : mPg t st q K A B U W I O) (v : Int32) (hv : 0 ≤ v.toInt) : Mv l D cy 2 YX12_opens [.ref 31, .int (nI q), .int v] st (fun u => ∃ f g, u = oS st f g ∧ ∀ j, (j < W ∨ (40 ≤ j ∧ j < 40 + I)) → slP u j = runSl K A B t (inS t v.toInt) W j) := by
  obtain ⟨p1, p2, p3, p4, p5, p6, p7, p8, p9, -⟩ := hp
  have hc : (nI q).toNatClampNeg = q := nI_clamp (by omega)
  have htr : 2 ≤ t ∧ t ≤ 13 := by rw [hte]; exact ht
  have hb0 : ¬ st.1 31 17 = 0 := fun h => by rw [fa_eq, z32] at h; omega
  have hslP : ∀ f g j, slP (oS st f g) j = if j < 40 then (f j).toInt else (g (j - 40)).toInt := fun f g j => by unfold slP; rw [oS_f, oS_g]
  have hs0 : ∀ j, 40 ≤ j → 0 ≤ inS t v.toInt j ∧ inS t v.toInt j < t := fun j hj => by
    unfold inS
    rw [if_neg (by omega)]
    exact ⟨Int.emod_nonneg _ (by omega), Int.emod_lt_of_pos _ (by omega)⟩
  refine M.ofG [some (.ref 31), some (.int (nI q)), some (.int v), none, none, none, none, none, none] (by decide) (Nat.le_of_ble_eq_true rfl) rfl ?_
  intro xp xe xs xm xa xb xme xc xad xA
  have loop : ∀ (f9 a : Nat) (f g : Nat → Int32) (y3 : Int32) (y5 y6 y7 y8 : Option Value), a + f9 = W → (∀ j, (j < a ∨ (40 ≤ j ∧ j < 40 + I)) → slP (oS st f g) j = runSl K A B t (inS t v.toInt) a j ∧ 0 ≤ runSl K A B t (inS t v.toInt) a j ∧ runSl K A B t (inS t v.toInt) a j < t) → G xp l xe (rmd (2)) xs xm xa xb xme xc D cy xad xA (YX12_opens.2.1, YX12_opens.1.cls, YX12_opens.2.2.1, YX12_opens.2.2.2) (Pv (fun (u : St) => ∃ f g, u = oS st f g ∧ ∀ j, (j < W ∨ (40 ≤ j ∧ j < 40 + I)) → slP u j = runSl K A B t (inS t v.toInt) W j)) 45 ([some (.ref 31), some (.int (nI q)), some (.int v), some (.int y3), some (.int (nI a)), y5, y6, y7, y8]) ([]) (oS st f g) := by
    intro f9
    induction f9 with
    | zero =>
      intro a f g y3 y5 y6 y7 y8 ha hs
      refine g_ild4 eX12_opens_45 ?_
      refine g_ald0 eX12_opens_47 ?_
      refine g_getR (ci := 11) (j := 24) rfl (Nat.le_of_ble_eq_true rfl) (Nat.le_of_ble_eq_true rfl) (Nat.le_of_ble_eq_true rfl) rfl rfl fl_X12_46 eX12_opens_48 ?_
      refine g_ild1 eX12_opens_51 ?_
      refine g_iald rfl (Nat.le_of_ble_eq_true rfl) (vp_in_nI (n := q) (N := 5) (by omega) (by decide)) eX12_opens_52 ?_
      rw [hc, oS_row st f g (by decide) (by decide), p1]
      refine g_icmp_ge eX12_opens_53 (fun hb => ?_) (fun hb => ?_)
      · refine g_vret rfl eX12_opens_198 ⟨rfl, ?_⟩
        try dsimp only
        exact ⟨f, g, rfl, fun j hj => by rw [show W = a by omega]; exact (hs j (by omega)).1⟩
      · exact absurd (nI_le (by omega) (by omega)) hb
    | succ f9 ih =>
      intro a f g y3 y5 y6 y7 y8 ha hs
      obtain ⟨k1, k2, k3⟩ := p7 a (by omega)
      obtain ⟨w1, w2, w3, w4, w5, w6⟩ := p9 a (by omega)
      have hcw : (nI (40 * q + a)).toNatClampNeg = 40 * q + a := nI_clamp (by omega)
      have hca : (nI a).toNatClampNeg = a := nI_clamp (by omega)
      have rd : ∀ c : Int, cOK a I c → outF c (slP (oS st f g)) = runSl K A B t (inS t v.toInt) a c.toNat ∧ 0 ≤ runSl K A B t (inS t v.toInt) a c.toNat ∧ runSl K A B t (inS t v.toInt) a c.toNat < t := fun c hcc => by
        unfold cOK at hcc
        unfold outF
        rw [if_neg (by omega)]
        exact hs c.toNat (by omega)
      have rA := rd _ w3
      refine g_ild4 eX12_opens_45 ?_
      refine g_ald0 eX12_opens_47 ?_
      refine g_getR (ci := 11) (j := 24) rfl (Nat.le_of_ble_eq_true rfl) (Nat.le_of_ble_eq_true rfl) (Nat.le_of_ble_eq_true rfl) rfl rfl fl_X12_46 eX12_opens_48 ?_
      refine g_ild1 eX12_opens_51 ?_
      refine g_iald rfl (Nat.le_of_ble_eq_true rfl) (vp_in_nI (n := q) (N := 5) (by omega) (by decide)) eX12_opens_52 ?_
      rw [hc, oS_row st f g (by decide) (by decide), p1]
      refine g_icmp_ge eX12_opens_53 (fun hb => ?_) (fun hb => ?_)
      · exact absurd hb (nI_ge (by omega) (by omega))
      · refine g_bipush (v := 40) (by decide) eX12_opens_56 ?_
        refine g_ild1 eX12_opens_58 ?_
        refine g_imul eX12_opens_59 ?_
        refine g_ild4 eX12_opens_60 ?_
        refine g_iadd eX12_opens_62 ?_
        rw [ix40 hq (by omega)]
        refine g_ist5 rfl (Nat.le_of_ble_eq_true rfl) eX12_opens_63 ?_
        refine g_ald0 eX12_opens_65 ?_
        refine g_ald0 eX12_opens_66 ?_
        refine g_getR (ci := 11) (j := 26) rfl (Nat.le_of_ble_eq_true rfl) (Nat.le_of_ble_eq_true rfl) (Nat.le_of_ble_eq_true rfl) rfl rfl fl_X12_52 eX12_opens_67 ?_
        refine g_ild5 eX12_opens_70 ?_
        refine g_iald rfl (Nat.le_of_ble_eq_true rfl) (vp_in_nI (n := 40 * q + a) (N := 200) (by omega) (by decide)) eX12_opens_72 ?_
        rw [hcw, oS_row st f g (by decide) (by decide)]
        refine g_callVi (ci := 11) (w_plainValue (oS st f g) htr.2 (by omega) p5 _ (Or.inl w3) _ k2) rfl (Nat.le_of_ble_eq_true rfl) (Nat.le_of_ble_eq_true rfl) rfl cv_X12_480 eX12_opens_73 ⟨Nat.le_of_ble_eq_true rfl, Nat.le_of_ble_eq_true rfl⟩ rfl rfl (Nat.le_of_ble_eq_true rfl) (fun za u2 h => ?_)
        obtain ⟨rfl, hza⟩ := h
        rw [rA.1] at hza
        have rest : ∀ zb : Int32, zb.toInt = (if K a = 4 ∨ K a = 5 then B a else runSl K A B t (inS t v.toInt) a (B a).toNat) → (-13 ≤ zb.toInt ∧ zb.toInt ≤ 13) → ∀ y7 : Option Value, G xp l xe (rmd (2)) xs xm xa xb xme xc D cy xad xA (YX12_opens.2.1, YX12_opens.1.cls, YX12_opens.2.2.1, YX12_opens.2.2.2) (Pv (fun (u : St) => ∃ f g, u = oS st f g ∧ ∀ j, (j < W ∨ (40 ≤ j ∧ j < 40 + I)) → slP u j = runSl K A B t (inS t v.toInt) W j)) 110 ([some (.ref 31), some (.int (nI q)), some (.int v), some (.int y3), some (.int (nI a)), some (.int (nI (40 * q + a))), some (.int za), y7, y8]) ([.int zb]) (oS st f g) := by
          intro zb hzb hzr y7
          have hzar : 0 ≤ za.toInt ∧ za.toInt < 13 := by rw [hza]; omega
          have fin : ∀ is : Int32, (-1000 ≤ is.toInt ∧ is.toInt ≤ 1000) → is.toInt % t = workF (K a) (runSl K A B t (inS t v.toInt) a (A a).toNat) (if K a = 4 ∨ K a = 5 then B a else runSl K A B t (inS t v.toInt) a (B a).toNat) t → G xp l xe (rmd (2)) xs xm xa xb xme xc D cy xad xA (YX12_opens.2.1, YX12_opens.1.cls, YX12_opens.2.2.1, YX12_opens.2.2.2) (Pv (fun (u : St) => ∃ f g, u = oS st f g ∧ ∀ j, (j < W ∨ (40 ≤ j ∧ j < 40 + I)) → slP u j = runSl K A B t (inS t v.toInt) W j)) 166 ([some (.ref 31), some (.int (nI q)), some (.int v), some (.int y3), some (.int (nI a)), some (.int (nI (40 * q + a))), some (.int za), some (.int zb), y8]) ([.int is]) (oS st f g) := by
            intro is hisr his
            have hrt := rem_twice is (st.1 31 17) ht hisr
            rw [← hte, his] at hrt
            refine g_ist8 rfl (Nat.le_of_ble_eq_true rfl) eX12_opens_166 ?_
            refine g_ald0 eX12_opens_168 ?_
            refine g_getR (ci := 11) (j := 70) rfl (Nat.le_of_ble_eq_true rfl) (Nat.le_of_ble_eq_true rfl) (Nat.le_of_ble_eq_true rfl) rfl rfl fl_X12_146 eX12_opens_169 ?_
            refine g_ild4 eX12_opens_172 ?_
            refine g_ild8 eX12_opens_174 ?_
            refine g_ald0 eX12_opens_176 ?_
            refine g_getI (ci := 11) (j := 17) rfl (Nat.le_of_ble_eq_true rfl) (Nat.le_of_ble_eq_true rfl) (Nat.le_of_ble_eq_true rfl) rfl fl_X12_174 eX12_opens_177 ?_
            rw [oS_row st f g (by decide) (by decide)]
            refine g_irem hb0 eX12_opens_180 ?_
            refine g_ald0 eX12_opens_181 ?_
            refine g_getI (ci := 11) (j := 17) rfl (Nat.le_of_ble_eq_true rfl) (Nat.le_of_ble_eq_true rfl) (Nat.le_of_ble_eq_true rfl) rfl fl_X12_174 eX12_opens_182 ?_
            rw [oS_row st f g (by decide) (by decide)]
            refine g_iadd eX12_opens_185 ?_
            refine g_ald0 eX12_opens_186 ?_
            refine g_getI (ci := 11) (j := 17) rfl (Nat.le_of_ble_eq_true rfl) (Nat.le_of_ble_eq_true rfl) (Nat.le_of_ble_eq_true rfl) rfl fl_X12_174 eX12_opens_187 ?_
            rw [oS_row st f g (by decide) (by decide)]
            refine g_irem hb0 eX12_opens_190 ?_
            generalize (is - is / st.1 31 17 * st.1 31 17 + st.1 31 17) - (is - is / st.1 31 17 * st.1 31 17 + st.1 31 17) / st.1 31 17 * st.1 31 17 = z9 at hrt ⊢
            refine g_iast rfl (Nat.le_of_ble_eq_true rfl) (vp_in_nI (n := a) (N := 40) (by omega) (by decide)) eX12_opens_191 ?_
            rw [hca, oS_pf]
            refine g_inc4 rfl (Nat.le_of_ble_eq_true rfl) rfl eX12_opens_192 ?_
            refine g_goto eX12_opens_195 ?_
            rw [inc1]
            refine ih (a + 1) _ g _ _ _ _ _ (by omega) (fun j hj => ?_)
            have h9 := workF_rng (K a) (runSl K A B t (inS t v.toInt) a (A a).toNat) (if K a = 4 ∨ K a = 5 then B a else runSl K A B t (inS t v.toInt) a (B a).toNat) (m := t) (by omega)
            rw [hslP, runSl_succ]
            unfold upd
            by_cases hja : j = a
            · rw [if_pos hja, if_pos hja, if_pos (by omega)]
              exact ⟨hrt, h9⟩
            · rw [if_neg hja, if_neg hja]
              have h8 := hs j (by omega)
              rw [hslP] at h8
              exact h8
          have eS : (za - zb).toInt = za.toInt - zb.toInt := by rw [fb_subI] <;> omega
          have eP : (za + zb).toInt = za.toInt + zb.toInt := by rw [fb_addI] <;> omega
          have hm1 : -169 ≤ za.toInt * zb.toInt ∧ za.toInt * zb.toInt ≤ 169 := by
            have h1 : za.toInt * zb.toInt ≤ 13 * 13 := by
              by_cases h0 : 0 ≤ zb.toInt
              · exact Int.mul_le_mul (by omega) (by omega) h0 (by decide)
              · have := Int.mul_nonpos_of_nonneg_of_nonpos hzar.1 (by omega : zb.toInt ≤ 0)
                omega
            have h2 : za.toInt * (-zb.toInt) ≤ 13 * 13 := by
              by_cases h0 : 0 ≤ -zb.toInt
              · exact Int.mul_le_mul (by omega) (by omega) h0 (by decide)
              · have := Int.mul_nonpos_of_nonneg_of_nonpos hzar.1 (by omega : -zb.toInt ≤ 0)
                omega
            rw [Int.mul_neg] at h2
            omega
          have eM : (za * zb).toInt = za.toInt * zb.toInt := by rw [fb_mulI] <;> omega
          rw [hza, hzb] at eS eP eM hm1
          refine g_ist7 rfl (Nat.le_of_ble_eq_true rfl) eX12_opens_110 ?_
          refine g_ald0 eX12_opens_112 ?_
          refine g_getR (ci := 11) (j := 25) rfl (Nat.le_of_ble_eq_true rfl) (Nat.le_of_ble_eq_true rfl) (Nat.le_of_ble_eq_true rfl) rfl rfl fl_X12_49 eX12_opens_113 ?_
          refine g_ild5 eX12_opens_116 ?_
          refine g_iald rfl (Nat.le_of_ble_eq_true rfl) (vp_in_nI (n := 40 * q + a) (N := 200) (by omega) (by decide)) eX12_opens_118 ?_
          refine g_iconst (v := 2) (by decide) eX12_opens_119 ?_
          rw [hcw, oS_row st f g (by decide) (by decide)]
          refine g_icmp_ne eX12_opens_120 (fun h120 => ?_) (fun h120 => ?_)
          · simp only [fa_eq, Int32.reduceToInt] at h120
            rw [k1] at h120
            have plus : (K a = 1 ∨ K a = 4) → G xp l xe (rmd (2)) xs xm xa xb xme xc D cy xad xA (YX12_opens.2.1, YX12_opens.1.cls, YX12_opens.2.2.1, YX12_opens.2.2.2) (Pv (fun (u : St) => ∃ f g, u = oS st f g ∧ ∀ j, (j < W ∨ (40 ≤ j ∧ j < 40 + I)) → slP u j = runSl K A B t (inS t v.toInt) W j)) 153 ([some (.ref 31), some (.int (nI q)), some (.int v), some (.int y3), some (.int (nI a)), some (.int (nI (40 * q + a))), some (.int za), some (.int zb), y8]) ([]) (oS st f g) := by
              intro h14
              refine g_ild6 eX12_opens_153 ?_
              refine g_ild7 eX12_opens_155 ?_
              refine g_iadd eX12_opens_157 ?_
              refine g_goto eX12_opens_158 ?_
              refine fin _ (by omega) ?_
              rw [eP]
              unfold workF
              rw [if_pos h14]
            refine g_ald0 eX12_opens_131 ?_
            refine g_getR (ci := 11) (j := 25) rfl (Nat.le_of_ble_eq_true rfl) (Nat.le_of_ble_eq_true rfl) (Nat.le_of_ble_eq_true rfl) rfl rfl fl_X12_49 eX12_opens_132 ?_
            refine g_ild5 eX12_opens_135 ?_
            refine g_iald rfl (Nat.le_of_ble_eq_true rfl) (vp_in_nI (n := 40 * q + a) (N := 200) (by omega) (by decide)) eX12_opens_137 ?_
            refine g_iconst (v := 1) (by decide) eX12_opens_138 ?_
            rw [hcw, oS_row st f g (by decide) (by decide)]
            refine g_icmp_eq eX12_opens_139 (fun h139 => ?_) (fun h139 => ?_)
            · simp only [fa_eq, Int32.reduceToInt] at h139
              rw [k1] at h139
              exact plus (Or.inl h139)
            · simp only [fa_eq, Int32.reduceToInt] at h139
              rw [k1] at h139
              refine g_ald0 eX12_opens_142 ?_
              refine g_getR (ci := 11) (j := 25) rfl (Nat.le_of_ble_eq_true rfl) (Nat.le_of_ble_eq_true rfl) (Nat.le_of_ble_eq_true rfl) rfl rfl fl_X12_49 eX12_opens_143 ?_
              refine g_ild5 eX12_opens_146 ?_
              refine g_iald rfl (Nat.le_of_ble_eq_true rfl) (vp_in_nI (n := 40 * q + a) (N := 200) (by omega) (by decide)) eX12_opens_148 ?_
              refine g_iconst (v := 4) (by decide) eX12_opens_149 ?_
              rw [hcw, oS_row st f g (by decide) (by decide)]
              refine g_icmp_ne eX12_opens_150 (fun h150 => ?_) (fun h150 => ?_)
              · simp only [fa_eq, Int32.reduceToInt] at h150
                rw [k1] at h150
                refine g_ild6 eX12_opens_161 ?_
                refine g_ild7 eX12_opens_163 ?_
                refine g_imul eX12_opens_165 ?_
                refine fin _ (by omega) ?_
                rw [eM]
                unfold workF
                rw [if_neg (show ¬ (K a = 1 ∨ K a = 4) by omega), if_neg h120]
              · simp only [fa_eq, Int32.reduceToInt] at h150
                rw [k1] at h150
                exact plus (Or.inr h150)
          · simp only [fa_eq, Int32.reduceToInt] at h120
            rw [k1] at h120
            have h2 : K a = 2 := h120
            refine g_ild6 eX12_opens_123 ?_
            refine g_ild7 eX12_opens_125 ?_
            refine g_isub eX12_opens_127 ?_
            refine g_goto eX12_opens_128 ?_
            refine fin _ (by omega) ?_
            rw [eS]
            unfold workF
            rw [if_neg (show ¬ (K a = 1 ∨ K a = 4) by omega), if_pos h2]
        refine g_ist6 rfl (Nat.le_of_ble_eq_true rfl) eX12_opens_76 ?_
        refine g_ald0 eX12_opens_78 ?_
        refine g_getR (ci := 11) (j := 25) rfl (Nat.le_of_ble_eq_true rfl) (Nat.le_of_ble_eq_true rfl) (Nat.le_of_ble_eq_true rfl) rfl rfl fl_X12_49 eX12_opens_79 ?_
        refine g_ild5 eX12_opens_82 ?_
        refine g_iald rfl (Nat.le_of_ble_eq_true rfl) (vp_in_nI (n := 40 * q + a) (N := 200) (by omega) (by decide)) eX12_opens_84 ?_
        refine g_iconst (v := 3) (by decide) eX12_opens_85 ?_
        rw [hcw, oS_row st f g (by decide) (by decide)]
        refine g_icmp_le eX12_opens_86 (fun h86 => ?_) (fun h86 => ?_)
        · simp only [fa_le, Int32.reduceToInt] at h86
          rw [k1] at h86
          have hK45 : ¬ (K a = 4 ∨ K a = 5) := by omega
          rw [if_neg hK45] at k3
          have wB := w4 h86
          have rB := rd _ wB
          refine g_ald0 eX12_opens_99 ?_
          refine g_ald0 eX12_opens_100 ?_
          refine g_getR (ci := 11) (j := 27) rfl (Nat.le_of_ble_eq_true rfl) (Nat.le_of_ble_eq_true rfl) (Nat.le_of_ble_eq_true rfl) rfl rfl fl_X12_55 eX12_opens_101 ?_
          refine g_ild5 eX12_opens_104 ?_
          refine g_iald rfl (Nat.le_of_ble_eq_true rfl) (vp_in_nI (n := 40 * q + a) (N := 200) (by omega) (by decide)) eX12_opens_106 ?_
          rw [hcw, oS_row st f g (by decide) (by decide)]
          refine g_callVi (ci := 11) (w_plainValue (oS st f g) htr.2 (by omega) p5 _ (Or.inl wB) _ k3) rfl (Nat.le_of_ble_eq_true rfl) (Nat.le_of_ble_eq_true rfl) rfl cv_X12_480 eX12_opens_107 ⟨Nat.le_of_ble_eq_true rfl, Nat.le_of_ble_eq_true rfl⟩ rfl rfl (Nat.le_of_ble_eq_true rfl) (fun zb u2 h => ?_)
          obtain ⟨rfl, hzb⟩ := h
          rw [rB.1] at hzb
          exact rest zb (by rw [if_neg hK45]; exact hzb) (by rw [hzb]; omega) _
        · simp only [fa_le, Int32.reduceToInt] at h86
          rw [k1] at h86
          have hK45 : K a = 4 ∨ K a = 5 := by omega
          rw [if_pos hK45] at k3
          refine g_ald0 eX12_opens_89 ?_
          refine g_getR (ci := 11) (j := 27) rfl (Nat.le_of_ble_eq_true rfl) (Nat.le_of_ble_eq_true rfl) (Nat.le_of_ble_eq_true rfl) rfl rfl fl_X12_55 eX12_opens_90 ?_
          refine g_ild5 eX12_opens_93 ?_
          refine g_iald rfl (Nat.le_of_ble_eq_true rfl) (vp_in_nI (n := 40 * q + a) (N := 200) (by omega) (by decide)) eX12_opens_95 ?_
          rw [hcw, oS_row st f g (by decide) (by decide)]
          refine g_goto eX12_opens_96 ?_
          refine rest _ (by rw [if_pos hK45]; exact k3) ?_ _
          rw [k3]
          by_cases h4 : K a = 4
          · have := w5 h4; omega
          · have := w6 (by omega); omega
  have ins : ∀ (f9 a : Nat) (y3 : Int32) (g : Nat → Int32), a + f9 = I → y3.toInt = v.toInt / t ^ a → (∀ j, j < a → (g j).toInt = inS t v.toInt (40 + j)) → G xp l xe (rmd (2)) xs xm xa xb xme xc D cy xad xA (YX12_opens.2.1, YX12_opens.1.cls, YX12_opens.2.2.1, YX12_opens.2.2.2) (Pv (fun (u : St) => ∃ f g, u = oS st f g ∧ ∀ j, (j < W ∨ (40 ≤ j ∧ j < 40 + I)) → slP u j = runSl K A B t (inS t v.toInt) W j)) 5 ([some (.ref 31), some (.int (nI q)), some (.int v), some (.int y3), some (.int (nI a)), none, none, none, none]) ([]) (oS st (st.1 75) g) := by
    intro f9
    induction f9 with
    | zero =>
      intro a y3 g ha hy hg
      refine g_ild4 eX12_opens_5 ?_
      refine g_ald0 eX12_opens_7 ?_
      refine g_getR (ci := 11) (j := 21) rfl (Nat.le_of_ble_eq_true rfl) (Nat.le_of_ble_eq_true rfl) (Nat.le_of_ble_eq_true rfl) rfl rfl fl_X12_37 eX12_opens_8 ?_
      refine g_ild1 eX12_opens_11 ?_
      refine g_iald rfl (Nat.le_of_ble_eq_true rfl) (vp_in_nI (n := q) (N := 5) (by omega) (by decide)) eX12_opens_12 ?_
      rw [hc, oS_row st _ g (by decide) (by decide), p2]
      refine g_icmp_ge eX12_opens_13 (fun hb => ?_) (fun hb => ?_)
      · refine g_iconst (v := 0) (by decide) eX12_opens_42 ?_
        refine g_ist4 rfl (Nat.le_of_ble_eq_true rfl) eX12_opens_43 ?_
        refine loop W 0 _ g _ _ _ _ _ (by omega) (fun j hj => ?_)
        have h9 := hs0 j (by omega)
        refine ⟨?_, h9⟩
        rw [hslP, if_neg (by omega), hg _ (by omega), show 40 + (j - 40) = j by omega]
        rfl
      · exact absurd (nI_le (by omega) (by omega)) hb
    | succ f9 ih =>
      intro a y3 g ha hy hg
      have hca : (nI a).toNatClampNeg = a := nI_clamp (by omega)
      have hpa := pow_le6 htr (k := a) (by omega)
      have h0 : 0 ≤ y3.toInt := by rw [hy]; exact Int.ediv_nonneg hv (by omega)
      have hr := remK (x := y3) (z := st.1 31 17) (k := t) hte.symm (by omega) h0
      have hd : (y3 / st.1 31 17).toInt = y3.toInt / t := by
        rw [Int32.toInt_div_of_ne_right _ _ (fun e => by rw [fa_eq] at e; have : (-1 : Int32).toInt = -1 := rfl; omega), ← hte]
        exact Int.tdiv_eq_ediv_of_nonneg h0
      refine g_ild4 eX12_opens_5 ?_
      refine g_ald0 eX12_opens_7 ?_
      refine g_getR (ci := 11) (j := 21) rfl (Nat.le_of_ble_eq_true rfl) (Nat.le_of_ble_eq_true rfl) (Nat.le_of_ble_eq_true rfl) rfl rfl fl_X12_37 eX12_opens_8 ?_
      refine g_ild1 eX12_opens_11 ?_
      refine g_iald rfl (Nat.le_of_ble_eq_true rfl) (vp_in_nI (n := q) (N := 5) (by omega) (by decide)) eX12_opens_12 ?_
      rw [hc, oS_row st _ g (by decide) (by decide), p2]
      refine g_icmp_ge eX12_opens_13 (fun hb => ?_) (fun hb => ?_)
      · exact absurd hb (nI_ge (by omega) (by omega))
      · refine g_ald0 eX12_opens_16 ?_
        refine g_getR (ci := 11) (j := 71) rfl (Nat.le_of_ble_eq_true rfl) (Nat.le_of_ble_eq_true rfl) (Nat.le_of_ble_eq_true rfl) rfl rfl fl_X12_149 eX12_opens_17 ?_
        refine g_ild4 eX12_opens_20 ?_
        refine g_ild3 eX12_opens_22 ?_
        refine g_ald0 eX12_opens_23 ?_
        refine g_getI (ci := 11) (j := 17) rfl (Nat.le_of_ble_eq_true rfl) (Nat.le_of_ble_eq_true rfl) (Nat.le_of_ble_eq_true rfl) rfl fl_X12_174 eX12_opens_24 ?_
        rw [oS_row st _ g (by decide) (by decide)]
        refine g_irem hb0 eX12_opens_27 ?_
        generalize y3 - y3 / st.1 31 17 * st.1 31 17 = z9 at hr ⊢
        refine g_iast rfl (Nat.le_of_ble_eq_true rfl) (vp_in_nI (n := a) (N := 6) (by omega) (by decide)) eX12_opens_28 ?_
        rw [hca, oS_pg]
        refine g_ild3 eX12_opens_29 ?_
        refine g_ald0 eX12_opens_30 ?_
        refine g_getI (ci := 11) (j := 17) rfl (Nat.le_of_ble_eq_true rfl) (Nat.le_of_ble_eq_true rfl) (Nat.le_of_ble_eq_true rfl) rfl fl_X12_174 eX12_opens_31 ?_
        rw [oS_row st _ _ (by decide) (by decide)]
        refine g_idiv hb0 eX12_opens_34 ?_
        refine g_ist3 rfl (Nat.le_of_ble_eq_true rfl) eX12_opens_35 ?_
        refine g_inc4 rfl (Nat.le_of_ble_eq_true rfl) rfl eX12_opens_36 ?_
        refine g_goto eX12_opens_39 ?_
        rw [inc1]
        refine ih (a + 1) _ _ (by omega) ?_ (fun j hj => ?_)
        · rw [hd, hy, Int.pow_succ, Int.ediv_ediv_of_nonneg (by omega)]
        · unfold upd
          by_cases hja : j = a
          · rw [if_pos hja, hr, hy, hja]
            unfold inS
            rw [if_neg (by omega), show 40 + a - 40 = a by omega]
          · rw [if_neg hja]
            exact hg j (by omega)
  refine g_ild2 eX12_opens_0 ?_
  refine g_ist3 rfl (Nat.le_of_ble_eq_true rfl) eX12_opens_1 ?_
  refine g_iconst (v := 0) (by decide) eX12_opens_2 ?_
  refine g_ist4 rfl (Nat.le_of_ble_eq_true rfl) eX12_opens_3 ?_
  have go := ins I 0 v (st.1 76) (by omega) (by rw [Int.pow_zero, Int.ediv_one]) (fun j hj => by omega)
  rw [oS_same] at go
  exact go
theorem plO_of {K A B : Nat → Int} {W I : Nat} {t v c : Int} {s : Nat → Int} (hs : ∀ j, (j < W ∨ (40 ≤ j ∧ j < 40 + I)) → s j = runSl K A B t (inS t v) W j) (hc : cOK W I c ∨ (-t ≤ c ∧ c < 0)) : outF c s = plO K A B W t v c := by
  unfold plO outF
  by_cases h : c < 0
  · rw [if_pos h, if_pos h]
  · rw [if_neg h, if_neg h]
    refine hs _ ?_
    rcases hc with h9 | h9
    · unfold cOK at h9; omega
    · omega
set_option maxHeartbeats 2000000 in
theorem w_openly (st s1 : St) (hT : sI st 31 18 0 = s1) (ht : tOK (s1.1 31 17)) (np : Nat) (hn : s1.1 31 19 = nI np) (h4 : np ≤ 4) {K A B U : Nat → Nat → Int} {W I O : Nat → Nat} (hp : ∀ q, q < np → mPg (s1.1 31 17).toInt s1 q (K q) (A q) (B q) (U q) (W q) (I q) (O q)) (x k v : Int32) : Mi l D cy 4 YX12_openly [.ref 31, .int x, .int k, .int v] st (fun r u => if (isS np x ∧ 0 ≤ k.toInt ∧ k.toInt < (O (qI x) : Int)) ∧ 0 ≤ v.toInt ∧ v.toInt < (s1.1 31 17).toInt ^ I (qI x) then (∃ f g, u = oS s1 f g) ∧ r.toInt = plO (K (qI x)) (A (qI x)) (B (qI x)) (W (qI x)) (s1.1 31 17).toInt v.toInt (U (qI x) (qI k)) else r = -1 ∧ u = s1) := by
  have hcn : (s1.1 31 19).toInt = np := by rw [hn, nI_toInt (by omega)]
  have e0 : (0 : Int32).toInt = 0 := rfl
  refine M.ofG [some (.ref 31), some (.int x), some (.int k), some (.int v)] (by decide) (Nat.le_of_ble_eq_true rfl) rfl ?_
  intro xp xe xs xm xa xb xme xc xad xA
  have bad : ¬ ((isS np x ∧ 0 ≤ k.toInt ∧ k.toInt < (O (qI x) : Int)) ∧ 0 ≤ v.toInt ∧ v.toInt < (s1.1 31 17).toInt ^ I (qI x)) → G xp l xe (rmd (4)) xs xm xa xb xme xc D cy xad xA (YX12_openly.2.1, YX12_openly.1.cls, YX12_openly.2.2.1, YX12_openly.2.2.2) (Pi (fun (r : Int32) (u : St) => if (isS np x ∧ 0 ≤ k.toInt ∧ k.toInt < (O (qI x) : Int)) ∧ 0 ≤ v.toInt ∧ v.toInt < (s1.1 31 17).toInt ^ I (qI x) then (∃ f g, u = oS s1 f g) ∧ r.toInt = plO (K (qI x)) (A (qI x)) (B (qI x)) (W (qI x)) (s1.1 31 17).toInt v.toInt (U (qI x) (qI k)) else r = -1 ∧ u = s1)) 44 ([some (.ref 31), some (.int x), some (.int k), some (.int v)]) ([]) (s1) := by
    intro hb
    refine g_iconst (v := (-1)) (by decide) eX12_openly_44 ?_
    refine g_iret rfl eX12_openly_45 ⟨_, rfl, ?_⟩
    try dsimp only
    rw [if_neg hb]
    exact ⟨rfl, rfl⟩
  refine g_ald0 eX12_openly_0 ?_
  refine g_iconst (v := 0) (by decide) eX12_openly_1 ?_
  refine g_putI (ci := 11) (j := 18) rfl rfl (Nat.le_of_ble_eq_true rfl) (Nat.le_of_ble_eq_true rfl) (Nat.le_of_ble_eq_true rfl) rfl fl_X12_177 eX12_openly_2 ?_
  rw [hT]
  refine g_ald0 eX12_openly_5 ?_
  refine g_ild1 eX12_openly_6 ?_
  refine g_callVi (ci := 11) (w_isProgram _ x) rfl (Nat.le_of_ble_eq_true rfl) (Nat.le_of_ble_eq_true rfl) rfl cv_X12_461 eX12_openly_7 ⟨Nat.le_of_ble_eq_true rfl, Nat.le_of_ble_eq_true rfl⟩ rfl rfl (Nat.le_of_ble_eq_true rfl) (fun r s1 h => ?_)
  obtain ⟨rfl, rfl⟩ := h
  refine g_if_eq eX12_openly_10 (fun hb => ?_) (fun hb => ?_)
  · rw [b2_eq0, hcn] at hb
    exact bad (fun h => hb h.1.1)
  · rw [b2_ne0, hcn] at hb
    obtain ⟨q, hq, rfl⟩ := as_nI hb
    have e : qI (nI q) = q := nI_clamp (by omega)
    have hc : (nI q).toNatClampNeg = q := e
    have hpq := hp q hq
    obtain ⟨p1, p2, p3, p4, p5, p6, p7, p8, p9, p10⟩ := hpq
    have es : (nI (O q) - 1).toInt = (O q : Int) - 1 := by rw [fb_subI] <;> rw [o32, nI_toInt (by omega)] <;> omega
    refine g_ild2 eX12_openly_13 ?_
    refine g_iconst (v := 0) (by decide) eX12_openly_14 ?_
    refine g_ald0 eX12_openly_15 ?_
    refine g_getR (ci := 11) (j := 22) rfl (Nat.le_of_ble_eq_true rfl) (Nat.le_of_ble_eq_true rfl) (Nat.le_of_ble_eq_true rfl) rfl rfl fl_X12_40 eX12_openly_16 ?_
    refine g_ild1 eX12_openly_19 ?_
    refine g_iald rfl (Nat.le_of_ble_eq_true rfl) (vp_in_nI (n := q) (N := 5) (by omega) (by decide)) eX12_openly_20 ?_
    rw [hc, p3]
    refine g_iconst (v := 1) (by decide) eX12_openly_21 ?_
    refine g_isub eX12_openly_22 ?_
    refine g_callSi (w_in _ k 0 _) cs_X12_378 eX12_openly_23 ⟨Nat.le_of_ble_eq_true rfl, Nat.le_of_ble_eq_true rfl⟩ rfl rfl (Nat.le_of_ble_eq_true rfl) (fun r s1 h => ?_)
    obtain ⟨rfl, rfl⟩ := h
    rw [es, e0]
    refine g_if_eq eX12_openly_26 (fun hb2 => ?_) (fun hb2 => ?_)
    · rw [b2_eq0] at hb2
      exact bad (fun h => hb2 (by have h9 := h.1.2; rw [e] at h9; omega))
    · rw [b2_ne0] at hb2
      have hpw := pow_le6 ht (k := I q) p5
      refine g_ild3 eX12_openly_29 ?_
      refine g_iconst (v := 0) (by decide) eX12_openly_30 ?_
      refine g_ald0 eX12_openly_31 ?_
      refine g_ild1 eX12_openly_32 ?_
      refine g_callVi (ci := 11) (w_allOf _ q (by omega) (I q) p2 p5 ht) rfl (Nat.le_of_ble_eq_true rfl) (Nat.le_of_ble_eq_true rfl) rfl cv_X12_483 eX12_openly_33 ⟨Nat.le_of_ble_eq_true rfl, Nat.le_of_ble_eq_true rfl⟩ rfl rfl (Nat.le_of_ble_eq_true rfl) (fun al s1 h => ?_)
      obtain ⟨rfl, hal⟩ := h
      have es2 : (al - 1).toInt = (s1.1 31 17).toInt ^ I q - 1 := by rw [fb_subI] <;> rw [o32, hal] <;> omega
      refine g_iconst (v := 1) (by decide) eX12_openly_36 ?_
      refine g_isub eX12_openly_37 ?_
      refine g_callSi (w_in _ v 0 _) cs_X12_378 eX12_openly_38 ⟨Nat.le_of_ble_eq_true rfl, Nat.le_of_ble_eq_true rfl⟩ rfl rfl (Nat.le_of_ble_eq_true rfl) (fun r s1 h => ?_)
      obtain ⟨rfl, rfl⟩ := h
      rw [es2, e0]
      refine g_if_ne eX12_openly_41 (fun hb3 => ?_) (fun hb3 => ?_)
      · rw [b2_ne0] at hb3
        obtain ⟨w, hw, rfl⟩ := as_nI (x := k) (n := 4) (by omega)
        have ew : qI (nI w) = w := nI_clamp (by omega)
        rw [nI_toInt (by omega)] at hb2
        have hC : (isS np (nI q) ∧ 0 ≤ (nI w).toInt ∧ (nI w).toInt < (O (qI (nI q)) : Int)) ∧ 0 ≤ v.toInt ∧ v.toInt < (s1.1 31 17).toInt ^ I (qI (nI q)) := by
          rw [e, nI_toInt (by omega)]
          exact ⟨⟨hb, by omega, by omega⟩, by omega, by omega⟩
        refine g_ald0 eX12_openly_46 ?_
        refine g_ild1 eX12_openly_47 ?_
        refine g_ild3 eX12_openly_48 ?_
        refine g_callVv (ci := 11) (w_opens s1 q (by omega) rfl ht (hp q hq) v hb3.1) rfl (Nat.le_of_ble_eq_true rfl) (Nat.le_of_ble_eq_true rfl) rfl cv_X12_486 eX12_openly_49 ⟨Nat.le_of_ble_eq_true rfl, Nat.le_of_ble_eq_true rfl⟩ rfl rfl (Nat.le_of_ble_eq_true rfl) (fun u2 h => ?_)
        obtain ⟨f, g, rfl, hs⟩ := h
        refine g_ald0 eX12_openly_52 ?_
        refine g_ald0 eX12_openly_53 ?_
        refine g_getR (ci := 11) (j := 23) rfl (Nat.le_of_ble_eq_true rfl) (Nat.le_of_ble_eq_true rfl) (Nat.le_of_ble_eq_true rfl) rfl rfl fl_X12_43 eX12_openly_54 ?_
        refine g_iconst (v := 4) (by decide) eX12_openly_57 ?_
        refine g_ild1 eX12_openly_58 ?_
        refine g_imul eX12_openly_59 ?_
        refine g_ild2 eX12_openly_60 ?_
        refine g_iadd eX12_openly_61 ?_
        rw [ix4]
        refine g_iald rfl (Nat.le_of_ble_eq_true rfl) (vp_in_nI (n := 4 * q + w) (N := 20) (by omega) (by decide)) eX12_openly_62 ?_
        rw [nI_clamp (by omega), oS_row s1 f g (by decide) (by decide)]
        refine g_callVi (ci := 11) (w_plainValue (oS s1 f g) ht.2 p4 p5 _ (p10 w (by omega)) _ (p8 w (by omega))) rfl (Nat.le_of_ble_eq_true rfl) (Nat.le_of_ble_eq_true rfl) rfl cv_X12_480 eX12_openly_63 ⟨Nat.le_of_ble_eq_true rfl, Nat.le_of_ble_eq_true rfl⟩ rfl rfl (Nat.le_of_ble_eq_true rfl) (fun r u2 h => ?_)
        obtain ⟨rfl, h⟩ := h
        refine g_iret rfl eX12_openly_66 ⟨_, rfl, ?_⟩
        try dsimp only
        rw [if_pos hC, e, ew]
        exact ⟨⟨f, g, rfl⟩, by rw [h]; exact plO_of hs (p10 w (by omega))⟩
      · rw [b2_eq0] at hb3
        exact bad (fun h => hb3 (by have h9 := h.2; rw [e] at h9; omega))
end MODM
