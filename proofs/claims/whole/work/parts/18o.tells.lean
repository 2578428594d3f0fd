/-! THE MODEL PARSES: tell -/
section TELU
variable {l : Launch} {D : va_G} {cy : Nat → ClassId} {K P V W : Nat → Nat} {bs pg : Nat}
def ctp (p : PM) (o : Nat) : CT := (p.2.1, p.2.2.2.1.length, o)
def teP (K P V W : Nat → Nat) (bs pg : Nat) (st : St) (R : GR) (c : CT) (u : St) : Prop := tlFr st u ∧ match R with
  | .inl e => u.1 31 12 = nI e.1 ∧ u.1 31 13 = nI (P e.2) ∧ 1 ≤ e.1 ∧ e.1 ≤ 2
  | .inr s => ∃ gs C TL, TK K P V W bs pg u s gs C TL ∧ ctp (pmF K P W bs s.2.2) (n7 gs) = c ∧ c.1 ≤ 6 ∧ c.2.1 ≤ 4
theorem te_tu {st u : St} {p : PM} {o : Nat} {R R2 : GR} {p2 : Nat × Nat × Nat} {c : CT} (h : tuP K P V W bs pg st p o R p2 u) (hR : R = R2) (hc : p2 = c) (h1 : c.1 ≤ 6 ∧ c.2.1 ≤ 4) : teP K P V W bs pg st R2 c u := by
  subst hR
  subst hc
  unfold tuP at h
  unfold teP
  cases R with
  | inl e => exact h
  | inr s =>
    obtain ⟨hf, gs, C, TL, hT, hq⟩ := h
    exact ⟨hf, gs, C, TL, hT, hq, h1⟩
theorem te_dead {st u : St} {R : GR} {c : CT} {e : Nat × Nat} (hR : R = .inl e) (he : 1 ≤ e.1 ∧ e.1 ≤ 2) (h : dD P st u e) : teP K P V W bs pg st R c u := by
  unfold teP
  rw [hR]
  exact ⟨h.1, h.2.1, h.2.2, he.1, he.2⟩
theorem w_tell (st : St) {s : GS} {gs : List GP} {C : List (Nat × Nat)} {TL : List TE} (hT : TK K P V W bs pg st s gs C TL) (hc1 : (pmF K P W bs s.2.2).2.1 ≤ 6) (hc2 : (pmF K P W bs s.2.2).2.2.2.1.length ≤ 4) : Mv l D cy 6 YX12_tell [.ref 31] st (teP K P V W bs pg st (tellF K (ctp (pmF K P W bs s.2.2) (n7 gs)) s) (ctF (K s.1) (ctp (pmF K P W bs s.2.2) (n7 gs)))) := by
  have hT9 := hT
  obtain ⟨t1, ⟨Wt, t2⟩, t3, t4, t5, t6, t7⟩ := hT
  have h300 : s.1 ≤ 300 := t2.1.2.1
  have hv := t1.1 s.1 h300 t2.1.2.2
  have hkl := mkK_lt _ hv.2.2.2.2.1
  have hb7 : n7 gs ≤ 4 := t7.2.2.1.2.2.2.2.1
  have hpg := t1.2.2.2
  have hxt : (nI (mkK (K s.1))).toInt = (mkK (K s.1) : Int) := nI_toInt (by omega)
  generalize hR : tellF K (ctp (pmF K P W bs s.2.2) (n7 gs)) s = R
  generalize hCC : ctF (K s.1) (ctp (pmF K P W bs s.2.2) (n7 gs)) = CC
  refine M.ofG [some (.ref 31)] (by decide) (Nat.le_of_ble_eq_true rfl) rfl ?_
  intro xp xe xs xm xa xb xme xc xad xA
  have hk4 : mkK (K s.1) = 20 ↔ K s.1 = 4 := mkK_is hv.2.2.2.2.1 (b := 4) (k := 20) (by decide) rfl
  have hk5 : mkK (K s.1) = 21 ↔ K s.1 = 5 := mkK_is hv.2.2.2.2.1 (b := 5) (k := 21) (by decide) rfl
  have hk6 : mkK (K s.1) = 22 ↔ K s.1 = 6 := mkK_is hv.2.2.2.2.1 (b := 6) (k := 22) (by decide) rfl
  have hk7 : mkK (K s.1) = 23 ↔ K s.1 = 7 := mkK_is hv.2.2.2.2.1 (b := 7) (k := 23) (by decide) rfl
  refine g_ald0 eX12_tell_0 ?_
  refine g_getR (ci := 11) (j := 4) rfl (Nat.le_of_ble_eq_true rfl) (Nat.le_of_ble_eq_true rfl) (Nat.le_of_ble_eq_true rfl) rfl rfl fl_X12_16 eX12_tell_1 ?_
  refine g_ald0 eX12_tell_4 ?_
  refine g_getI (ci := 11) (j := 10) rfl (Nat.le_of_ble_eq_true rfl) (Nat.le_of_ble_eq_true rfl) (Nat.le_of_ble_eq_true rfl) rfl fl_X12_220 eX12_tell_5 ?_
  rw [show st.1 31 10 = nI s.1 from t2.1.1]
  refine g_iald rfl (Nat.le_of_ble_eq_true rfl) (vp_in_nI (n := s.1) (N := 303) (by omega) (by decide)) eX12_tell_8 ?_
  rw [nI_clamp (by omega), hv.1]
  by_cases k4 : K s.1 = 4
  · have hq : (nI (mkK (K s.1))).toInt = 20 := by rw [hxt, hk4.mpr k4]; rfl
    refine g_tableIn (off := 31) (tgt := 40) eX12_tell_9 (by omega) (by omega) (by rw [hq]; rfl) (by decide) ?_
    refine g_ald0 eX12_tell_40 ?_
    refine g_getR (ci := 11) (j := 21) rfl (Nat.le_of_ble_eq_true rfl) (Nat.le_of_ble_eq_true rfl) (Nat.le_of_ble_eq_true rfl) rfl rfl fl_X12_37 eX12_tell_41 ?_
    refine g_ald0 eX12_tell_44 ?_
    refine g_getI (ci := 11) (j := 20) rfl (Nat.le_of_ble_eq_true rfl) (Nat.le_of_ble_eq_true rfl) (Nat.le_of_ble_eq_true rfl) rfl fl_X12_250 eX12_tell_45 ?_
    rw [t1.2.2.1]
    refine g_iald rfl (Nat.le_of_ble_eq_true rfl) (vp_in_nI (n := pg) (N := 5) (by omega) (by decide)) eX12_tell_48 ?_
    rw [nI_clamp (by omega), t4.1]
    refine g_bipush (v := 6) (by decide) eX12_tell_49 ?_
    by_cases h6 : (pmF K P W bs s.2.2).2.1 = 6
    · have eR : R = .inl (2, s.1) := by
        rw [← hR]
        unfold tellF ctp
        rw [if_pos k4, if_pos (by show 6 < (pmF K P W bs s.2.2).2.1 + 1; omega)]
        rfl
      refine g_icmp_ne eX12_tell_51 (fun hb => ?_) (fun hb => ?_)
      · exact absurd (by rw [h6]; rfl) hb
      · refine g_ald0 eX12_tell_54 ?_
        refine g_iconst (v := 2) (by decide) eX12_tell_55 ?_
        refine g_callVv (ci := 11) (w_fail st t1.1 t2 2) rfl (Nat.le_of_ble_eq_true rfl) (Nat.le_of_ble_eq_true rfl) rfl cv_X12_232 eX12_tell_56 ⟨Nat.le_of_ble_eq_true rfl, Nat.le_of_ble_eq_true rfl⟩ rfl rfl (Nat.le_of_ble_eq_true rfl) (fun u1 h1 => ?_)
        refine g_ald0 eX12_tell_59 ?_
        refine g_getI (ci := 11) (j := 12) rfl (Nat.le_of_ble_eq_true rfl) (Nat.le_of_ble_eq_true rfl) (Nat.le_of_ble_eq_true rfl) rfl fl_X12_217 eX12_tell_60 ?_
        rw [h1.1.2.1]
        refine g_if_ne eX12_tell_63 (fun hb2 => ?_) (fun hb2 => ?_)
        · exact g_vret rfl eX12_tell_139 ⟨rfl, (te_dead eR ⟨by show 1 ≤ 2; decide, by show 2 ≤ 2; decide⟩ (dD_ex h1.1))⟩
        · exact absurd hb2 (show ¬ nI 2 = 0 by decide)
    · refine g_icmp_ne eX12_tell_51 (fun hb => ?_) (fun hb => ?_)
      · refine g_ald0 eX12_tell_59 ?_
        refine g_getI (ci := 11) (j := 12) rfl (Nat.le_of_ble_eq_true rfl) (Nat.le_of_ble_eq_true rfl) (Nat.le_of_ble_eq_true rfl) rfl fl_X12_217 eX12_tell_60 ?_
        rw [t2.2.1]
        refine g_if_ne eX12_tell_63 (fun hb2 => ?_) (fun hb2 => ?_)
        · exact absurd rfl hb2
        · refine g_ald0 eX12_tell_66 ?_
          refine g_callVv (ci := 11) (w_tellIn st hT9 k4) rfl (Nat.le_of_ble_eq_true rfl) (Nat.le_of_ble_eq_true rfl) rfl cv_X12_277 eX12_tell_67 ⟨Nat.le_of_ble_eq_true rfl, Nat.le_of_ble_eq_true rfl⟩ rfl rfl (Nat.le_of_ble_eq_true rfl) (fun u1 h1 => ?_)
          refine g_goto eX12_tell_70 ?_
          refine g_vret rfl eX12_tell_139 ⟨rfl, ?_⟩
          try dsimp only
          refine te_tu h1 ?_ ?_ ?_
          · rw [← hR]
            unfold tellF ctp
            rw [if_pos k4, if_neg (by show ¬ 6 < (pmF K P W bs s.2.2).2.1 + 1; omega)]
          · rw [← hCC, k4]; rfl
          · rw [← hCC, k4]; exact ⟨by show (pmF K P W bs s.2.2).2.1 + 1 ≤ 6; omega, by show (pmF K P W bs s.2.2).2.2.2.1.length + 0 ≤ 4; omega⟩
      · exact absurd ((nI_eq (b := 6) (by omega) (by omega)).mp hb) h6
  by_cases k5 : K s.1 = 5
  · have hq : (nI (mkK (K s.1))).toInt = 21 := by rw [hxt, hk5.mpr k5]; rfl
    refine g_tableIn (off := 64) (tgt := 73) eX12_tell_9 (by omega) (by omega) (by rw [hq]; rfl) (by decide) ?_
    refine g_ald0 eX12_tell_73 ?_
    refine g_getI (ci := 11) (j := 32) rfl (Nat.le_of_ble_eq_true rfl) (Nat.le_of_ble_eq_true rfl) (Nat.le_of_ble_eq_true rfl) rfl fl_X12_256 eX12_tell_74 ?_
    rw [t4.2.2.1]
    refine g_iconst (v := 4) (by decide) eX12_tell_77 ?_
    by_cases h6 : (pmF K P W bs s.2.2).2.2.2.1.length = 4
    · have eR : R = .inl (2, s.1) := by
        rw [← hR]
        unfold tellF ctp
        rw [if_neg k4, if_pos k5, if_pos (by show 4 < (pmF K P W bs s.2.2).2.2.2.1.length + 1; omega)]
        rfl
      refine g_icmp_ne eX12_tell_78 (fun hb => ?_) (fun hb => ?_)
      · exact absurd (by rw [h6]; rfl) hb
      · refine g_ald0 eX12_tell_81 ?_
        refine g_iconst (v := 2) (by decide) eX12_tell_82 ?_
        refine g_callVv (ci := 11) (w_fail st t1.1 t2 2) rfl (Nat.le_of_ble_eq_true rfl) (Nat.le_of_ble_eq_true rfl) rfl cv_X12_232 eX12_tell_83 ⟨Nat.le_of_ble_eq_true rfl, Nat.le_of_ble_eq_true rfl⟩ rfl rfl (Nat.le_of_ble_eq_true rfl) (fun u1 h1 => ?_)
        refine g_ald0 eX12_tell_86 ?_
        refine g_getI (ci := 11) (j := 12) rfl (Nat.le_of_ble_eq_true rfl) (Nat.le_of_ble_eq_true rfl) (Nat.le_of_ble_eq_true rfl) rfl fl_X12_217 eX12_tell_87 ?_
        rw [h1.1.2.1]
        refine g_if_ne eX12_tell_90 (fun hb2 => ?_) (fun hb2 => ?_)
        · exact g_vret rfl eX12_tell_139 ⟨rfl, (te_dead eR ⟨by show 1 ≤ 2; decide, by show 2 ≤ 2; decide⟩ (dD_ex h1.1))⟩
        · exact absurd hb2 (show ¬ nI 2 = 0 by decide)
    · refine g_icmp_ne eX12_tell_78 (fun hb => ?_) (fun hb => ?_)
      · refine g_ald0 eX12_tell_86 ?_
        refine g_getI (ci := 11) (j := 12) rfl (Nat.le_of_ble_eq_true rfl) (Nat.le_of_ble_eq_true rfl) (Nat.le_of_ble_eq_true rfl) rfl fl_X12_217 eX12_tell_87 ?_
        rw [t2.2.1]
        refine g_if_ne eX12_tell_90 (fun hb2 => ?_) (fun hb2 => ?_)
        · exact absurd rfl hb2
        · refine g_ald0 eX12_tell_93 ?_
          refine g_callVv (ci := 11) (w_tellTable st hT9 k5 (by omega)) rfl (Nat.le_of_ble_eq_true rfl) (Nat.le_of_ble_eq_true rfl) rfl cv_X12_280 eX12_tell_94 ⟨Nat.le_of_ble_eq_true rfl, Nat.le_of_ble_eq_true rfl⟩ rfl rfl (Nat.le_of_ble_eq_true rfl) (fun u1 h1 => ?_)
          refine g_goto eX12_tell_97 ?_
          refine g_vret rfl eX12_tell_139 ⟨rfl, ?_⟩
          try dsimp only
          refine te_tu h1 ?_ ?_ ?_
          · rw [← hR]
            unfold tellF ctp
            rw [if_neg k4, if_pos k5, if_neg (by show ¬ 4 < (pmF K P W bs s.2.2).2.2.2.1.length + 1; omega)]
          · rw [← hCC, k5]; rfl
          · rw [← hCC, k5]; exact ⟨by show (pmF K P W bs s.2.2).2.1 + 0 ≤ 6; omega, by show (pmF K P W bs s.2.2).2.2.2.1.length + 1 ≤ 4; omega⟩
      · exact absurd ((nI_eq (b := 4) (by omega) (by omega)).mp hb) h6
  by_cases k6 : K s.1 = 6
  · have hq : (nI (mkK (K s.1))).toInt = 22 := by rw [hxt, hk6.mpr k6]; rfl
    refine g_tableIn (off := 91) (tgt := 100) eX12_tell_9 (by omega) (by omega) (by rw [hq]; rfl) (by decide) ?_
    refine g_ald0 eX12_tell_100 ?_
    refine g_callVv (ci := 11) (w_tellLet st hT9 k6) rfl (Nat.le_of_ble_eq_true rfl) (Nat.le_of_ble_eq_true rfl) rfl cv_X12_283 eX12_tell_101 ⟨Nat.le_of_ble_eq_true rfl, Nat.le_of_ble_eq_true rfl⟩ rfl rfl (Nat.le_of_ble_eq_true rfl) (fun u1 h1 => ?_)
    refine g_goto eX12_tell_104 ?_
    refine g_vret rfl eX12_tell_139 ⟨rfl, ?_⟩
    try dsimp only
    refine te_tu h1 ?_ ?_ ?_
    · rw [← hR]
      unfold tellF
      rw [if_neg k4, if_neg k5, if_pos k6]
    · rw [← hCC, k6]; rfl
    · rw [← hCC, k6]; exact ⟨by show (pmF K P W bs s.2.2).2.1 + 0 ≤ 6; omega, by show (pmF K P W bs s.2.2).2.2.2.1.length + 0 ≤ 4; omega⟩
  by_cases k7 : K s.1 = 7
  · have hq : (nI (mkK (K s.1))).toInt = 23 := by rw [hxt, hk7.mpr k7]; rfl
    refine g_tableIn (off := 98) (tgt := 107) eX12_tell_9 (by omega) (by omega) (by rw [hq]; rfl) (by decide) ?_
    refine g_ald0 eX12_tell_107 ?_
    refine g_getI (ci := 11) (j := 38) rfl (Nat.le_of_ble_eq_true rfl) (Nat.le_of_ble_eq_true rfl) (Nat.le_of_ble_eq_true rfl) rfl fl_X12_265 eX12_tell_108 ?_
    rw [t4.2.2.2]
    refine g_iconst (v := 4) (by decide) eX12_tell_111 ?_
    by_cases h6 : n7 gs = 4
    · have eR : R = .inl (2, s.1) := by
        rw [← hR]
        unfold tellF ctp
        rw [if_neg k4, if_neg k5, if_neg k6, if_pos k7, if_pos (by show 4 < n7 gs + 1; omega)]
        rfl
      refine g_icmp_ne eX12_tell_112 (fun hb => ?_) (fun hb => ?_)
      · exact absurd (by rw [h6]; rfl) hb
      · refine g_ald0 eX12_tell_115 ?_
        refine g_iconst (v := 2) (by decide) eX12_tell_116 ?_
        refine g_callVv (ci := 11) (w_fail st t1.1 t2 2) rfl (Nat.le_of_ble_eq_true rfl) (Nat.le_of_ble_eq_true rfl) rfl cv_X12_232 eX12_tell_117 ⟨Nat.le_of_ble_eq_true rfl, Nat.le_of_ble_eq_true rfl⟩ rfl rfl (Nat.le_of_ble_eq_true rfl) (fun u1 h1 => ?_)
        refine g_ald0 eX12_tell_120 ?_
        refine g_getI (ci := 11) (j := 12) rfl (Nat.le_of_ble_eq_true rfl) (Nat.le_of_ble_eq_true rfl) (Nat.le_of_ble_eq_true rfl) rfl fl_X12_217 eX12_tell_121 ?_
        rw [h1.1.2.1]
        refine g_if_ne eX12_tell_124 (fun hb2 => ?_) (fun hb2 => ?_)
        · exact g_vret rfl eX12_tell_139 ⟨rfl, (te_dead eR ⟨by show 1 ≤ 2; decide, by show 2 ≤ 2; decide⟩ (dD_ex h1.1))⟩
        · exact absurd hb2 (show ¬ nI 2 = 0 by decide)
    · refine g_icmp_ne eX12_tell_112 (fun hb => ?_) (fun hb => ?_)
      · refine g_ald0 eX12_tell_120 ?_
        refine g_getI (ci := 11) (j := 12) rfl (Nat.le_of_ble_eq_true rfl) (Nat.le_of_ble_eq_true rfl) (Nat.le_of_ble_eq_true rfl) rfl fl_X12_217 eX12_tell_121 ?_
        rw [t2.2.1]
        refine g_if_ne eX12_tell_124 (fun hb2 => ?_) (fun hb2 => ?_)
        · exact absurd rfl hb2
        · refine g_ald0 eX12_tell_127 ?_
          refine g_callVv (ci := 11) (w_tellOut st hT9 k7 (by omega)) rfl (Nat.le_of_ble_eq_true rfl) (Nat.le_of_ble_eq_true rfl) rfl cv_X12_286 eX12_tell_128 ⟨Nat.le_of_ble_eq_true rfl, Nat.le_of_ble_eq_true rfl⟩ rfl rfl (Nat.le_of_ble_eq_true rfl) (fun u1 h1 => ?_)
          refine g_goto eX12_tell_131 ?_
          refine g_vret rfl eX12_tell_139 ⟨rfl, ?_⟩
          try dsimp only
          refine te_tu h1 ?_ ?_ ?_
          · rw [← hR]
            unfold tellF ctp
            rw [if_neg k4, if_neg k5, if_neg k6, if_pos k7, if_neg (by show ¬ 4 < n7 gs + 1; omega)]
          · rw [← hCC, k7]; rfl
          · rw [← hCC, k7]; exact ⟨by show (pmF K P W bs s.2.2).2.1 + 0 ≤ 6; omega, by show (pmF K P W bs s.2.2).2.2.2.1.length + 0 ≤ 4; omega⟩
      · exact absurd ((nI_eq (b := 4) (by omega) (by omega)).mp hb) h6
  · have n4 : ¬ mkK (K s.1) = 20 := fun z => k4 (hk4.mp z)
    have n5 : ¬ mkK (K s.1) = 21 := fun z => k5 (hk5.mp z)
    have n6 : ¬ mkK (K s.1) = 22 := fun z => k6 (hk6.mp z)
    have n7 : ¬ mkK (K s.1) = 23 := fun z => k7 (hk7.mp z)
    refine g_tableOut (tgt := 134) eX12_tell_9 (by omega) (by decide) ?_
    have eR : R = .inl (1, s.1) := by
      rw [← hR]
      unfold tellF
      rw [if_neg k4, if_neg k5, if_neg k6, if_neg k7]
    refine g_ald0 eX12_tell_134 ?_
    refine g_iconst (v := 1) (by decide) eX12_tell_135 ?_
    refine g_callVv (ci := 11) (w_fail st t1.1 t2 1) rfl (Nat.le_of_ble_eq_true rfl) (Nat.le_of_ble_eq_true rfl) rfl cv_X12_232 eX12_tell_136 ⟨Nat.le_of_ble_eq_true rfl, Nat.le_of_ble_eq_true rfl⟩ rfl rfl (Nat.le_of_ble_eq_true rfl) (fun u1 h1 => ?_)
    exact g_vret rfl eX12_tell_139 ⟨rfl, (te_dead eR ⟨by show 1 ≤ 1; decide, by show 1 ≤ 2; decide⟩ (dD_ex h1.1))⟩
end TELU
