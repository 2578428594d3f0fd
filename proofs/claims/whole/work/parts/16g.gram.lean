/-! GRAMMAR: unit, tell, check -/
section GRAME
variable {l : Launch} {D : va_G} {cy : Nat → ClassId} {K P : Nat → Nat}
theorem unitF_v {d : Nat} {s : GS} (h : K s.1 = 2) : unitF K d s = psF (gvF 5 s.1 (wrF 2 s.1 s)) := by
  cases d <;> rw [unitF, if_pos h]
theorem unitF_i {d : Nat} {s : GS} (h : K s.1 = 3) : unitF K d s = psF (wrF 3 s.1 s) := by
  cases d <;> rw [unitF, if_neg (by omega), if_pos h]
theorem unitF_p {d : Nat} {s : GS} (h : K s.1 = 40) : unitF K d s = gb (if d = 0 then .inl (2, s.1) else psF s) (fun s1 => gb (sumF K (prodF K (unitF K (d - 1))) s1) (fun s2 => gb (tkF K 41 s2) .inr)) := by
  cases d with
  | zero => rw [unitF, if_neg (by omega), if_neg (by omega), if_pos (Or.inl h)]; rfl
  | succ d => rw [unitF, if_neg (by omega), if_neg (by omega), if_pos h, if_neg (by omega)]; rfl
theorem unitF_c {d : Nat} {s : GS} (h : K s.1 = 8) : unitF K d s = gb (if d = 0 then .inl (2, s.1) else psF s) (fun s1 => gb (unitF K (d - 1) s1) (fun s2 => gb (unitF K (d - 1) s2) (fun s3 => gb (unitF K (d - 1) s3) (fun s4 => .inr (wrF 8 s.1 s4))))) := by
  cases d with
  | zero => rw [unitF, if_neg (by omega), if_neg (by omega), if_pos (Or.inr (Or.inl h))]; rfl
  | succ d => rw [unitF, if_neg (by omega), if_neg (by omega), if_neg (by omega), if_pos h, if_neg (by omega)]; rfl
theorem unitF_a {d : Nat} {s : GS} (h : K s.1 = 9) : unitF K d s = gb (if d = 0 then .inl (2, s.1) else psF s) (fun s1 => gb (tkF K 2 (gvF 4 s1.1 s1)) (fun s2 => gb (unitF K (d - 1) s2) (fun s3 => .inr (wrF 9 (s.1 + 1) s3)))) := by
  cases d with
  | zero => rw [unitF, if_neg (by omega), if_neg (by omega), if_pos (Or.inr (Or.inr h))]; rfl
  | succ d => rw [unitF, if_neg (by omega), if_neg (by omega), if_neg (by omega), if_neg (by omega), if_pos h, if_neg (by omega)]; rfl
theorem unitF_n {d : Nat} {s : GS} (h : ¬ (K s.1 = 2 ∨ K s.1 = 3 ∨ K s.1 = 40 ∨ K s.1 = 8 ∨ K s.1 = 9)) : unitF K d s = .inl (1, s.1) := by
  cases d with
  | zero => rw [unitF, if_neg (by omega), if_neg (by omega), if_neg (by omega)]
  | succ d => rw [unitF, if_neg (by omega), if_neg (by omega), if_neg (by omega), if_neg (by omega), if_neg (by omega)]
theorem not0 {d : Nat} {s s1 : GS} (e : (if d = 0 then Sum.inl (2, s.1) else psF s : GR) = .inr s1) : d ≠ 0 := by
  intro h
  rw [if_pos h] at e
  cases e
theorem m_unit {d : Nat} (hd : d ≤ 6) (hs : d ≠ 0 → sC l D cy K P (d - 1) ∧ uC l D cy K P (d - 1)) : uC l D cy K P d := by
  intro st s hv hg
  have hk9 := (hv s.1 hg.2.1 hg.2.2.1).2.2
  have hxt : (nI (K s.1)).toInt = (K s.1 : Int) := nI_toInt (by omega)
  have hdep : d ≠ 0 → nI (6 - d) + 1 = nI (6 - (d - 1)) := by
    intro h
    rw [show nI (6 - d) + 1 = nI (6 - d + 1) from nI_1 _]
    congr 1
    omega
  generalize hR : unitF K d s = R
  refine M.ofG [some (.ref 3), some (.int (nI (6 - d))), none] (by decide) (Nat.le_of_ble_eq_true rfl) rfl ?_
  intro xp xe xs xm xa xb xme xc xad xA
  have val : ∀ s1 : GS, (∀ u, gOK K u (wrF (K s.1) s.1 s) → gOK K u s1) → s1.1 = s.1 → K s.1 ≠ 0 ∧ K s.1 ≠ 1 → R = psF s1 → G xp l xe (rmd (2 + 3 * d)) xs xm xa xb xme xc D cy xad xA (YX1_unit.2.1, YX1_unit.1.cls, YX1_unit.2.2.1, YX1_unit.2.2.2) (Pi (gPost K P st R)) 60 ([some (.ref 3), some (.int (nI (6 - d))), some (.int (nI s.1))]) ([]) (st) := by
    intro s1 hs1 he h0 hR
    refine g_ald0 eX1_unit_60 ?_
    refine g_ald0 eX1_unit_61 ?_
    refine g_callVi (ci := 1) (m_now st hv hg) rfl (Nat.le_of_ble_eq_true rfl) (Nat.le_of_ble_eq_true rfl) rfl cv_X1_51 eX1_unit_62 (rm_ok (by omega)) rfl rfl (Nat.le_of_ble_eq_true rfl) (fun r st h => ?_)
    obtain ⟨rfl, rfl⟩ := h
    refine g_ild2 eX1_unit_65 ?_
    refine g_callVi (ci := 1) (m_writeDown st hg (K s.1) s.1) rfl (Nat.le_of_ble_eq_true rfl) (Nat.le_of_ble_eq_true rfl) rfl cv_X1_85 eX1_unit_66 (rm_ok (by omega)) rfl rfl (Nat.le_of_ble_eq_true rfl) (fun r u1 h => ?_)
    obtain ⟨hf, rfl, hg1⟩ := h
    refine g_if_eq eX1_unit_69 (fun hb => ?_) (fun hb => ?_)
    · exact absurd hb (by decide)
    · refine g_ald0 eX1_unit_72 ?_
      refine g_callVi (ci := 1) (m_pass u1 (tv_fr hv hf) (hs1 _ hg1) (by rw [he]; exact h0)) rfl (Nat.le_of_ble_eq_true rfl) (Nat.le_of_ble_eq_true rfl) rfl cv_X1_65 eX1_unit_73 (rm_ok (by omega)) rfl rfl (Nat.le_of_ble_eq_true rfl) (fun r u2 h => ?_)
      rcases e1 : psF s1 with x | s2
      · rw [e1] at h
        obtain ⟨hf2, rfl, hx⟩ := h
        refine g_if_eq eX1_unit_76 (fun hb => ?_) (fun hb => ?_)
        · refine g_iconst (v := 0) (by decide) eX1_unit_83 ?_
          exact g_zret (ty := .boolean) rfl (by first | rfl | assumption) eX1_unit_84 ⟨_, rfl, (gfail (hR.trans e1) (hf.trans hf2) hx)⟩
        · exact absurd rfl hb
      · rw [e1] at h
        obtain ⟨hf2, rfl, hx⟩ := h
        refine g_if_eq eX1_unit_76 (fun hb => ?_) (fun hb => ?_)
        · exact absurd hb (by decide)
        · refine g_iconst (v := 1) (by decide) eX1_unit_79 ?_
          refine g_goto eX1_unit_80 ?_
          exact g_zret (ty := .boolean) rfl (by first | rfl | assumption) eX1_unit_84 ⟨_, rfl, (gwell (hR.trans e1) (hf.trans hf2) hx)⟩
  have hv0 := hv
  have hg0 := hg
  have hF0 := gFr.refl st
  refine g_ald0 eX1_unit_0 ?_
  refine g_getI (ci := 1) (j := 5) rfl (Nat.le_of_ble_eq_true rfl) (Nat.le_of_ble_eq_true rfl) (Nat.le_of_ble_eq_true rfl) rfl fl_X1_32 eX1_unit_1 ?_
  rw [hg.1]
  refine g_ist2 rfl (Nat.le_of_ble_eq_true rfl) eX1_unit_4 ?_
  refine g_ald0 eX1_unit_5 ?_
  refine g_callVi (ci := 1) (m_now st hv hg) rfl (Nat.le_of_ble_eq_true rfl) (Nat.le_of_ble_eq_true rfl) rfl cv_X1_51 eX1_unit_6 (rm_ok (by omega)) rfl rfl (Nat.le_of_ble_eq_true rfl) (fun r st h => ?_)
  obtain ⟨rfl, rfl⟩ := h
  by_cases k2 : K s.1 = 2
  · have hq : (nI (K s.1)).toInt = 2 := by rw [hxt, k2]; rfl
    refine g_lookup (off := 51) (tgt := 60) eX1_unit_9 (by decide) (by rw [hq]; rfl) (by decide) ?_
    exact val (gvF 5 s.1 (wrF 2 s.1 s)) (fun u h => by rw [k2] at h; exact h) rfl (by omega) (hR.symm.trans (unitF_v k2))
  by_cases k3 : K s.1 = 3
  · have hq : (nI (K s.1)).toInt = 3 := by rw [hxt, k3]; rfl
    refine g_lookup (off := 51) (tgt := 60) eX1_unit_9 (by decide) (by rw [hq]; rfl) (by decide) ?_
    exact val (wrF 3 s.1 s) (fun u h => by rw [k3] at h; exact h) rfl (by omega) (hR.symm.trans (unitF_i k3))
  by_cases k40 : K s.1 = 40
  · have hq : (nI (K s.1)).toInt = 40 := by rw [hxt, k40]; rfl
    refine g_lookup (off := 76) (tgt := 85) eX1_unit_9 (by decide) (by rw [hq]; rfl) (by decide) ?_
    have hR0 := hR.symm.trans (unitF_p k40)
    refine g_ald0 eX1_unit_85 ?_
    refine g_ild1 eX1_unit_86 ?_
    refine g_callVi (ci := 1) (m_goWithin st hv0 hg0 (by omega) d hd) rfl (Nat.le_of_ble_eq_true rfl) (Nat.le_of_ble_eq_true rfl) rfl cv_X1_96 eX1_unit_87 (rm_ok (by omega)) rfl rfl (Nat.le_of_ble_eq_true rfl) (fun r u1 h => ?_)
    rcases e1 : (if d = 0 then Sum.inl (2, s.1) else psF s : GR) with x | s1
    · rw [e1] at h
      obtain ⟨hf, rfl, hx⟩ := h
      refine g_if_eq eX1_unit_90 (fun hb => ?_) (fun hb => ?_)
      · refine g_iconst (v := 0) (by decide) eX1_unit_116 ?_
        exact g_zret (ty := .boolean) rfl (by first | rfl | assumption) eX1_unit_117 ⟨_, rfl, ((gfail (hR0.trans (gb_no e1)) (hF0.trans hf) hx))⟩
      · exact absurd rfl hb
    rw [e1] at h
    obtain ⟨hf, rfl, hg1⟩ := h
    refine g_if_eq eX1_unit_90 (fun hb => ?_) (fun hb => ?_)
    · exact absurd hb (by decide)
    have hR1 := hR0.trans (gb_ok e1)
    have hF1 := hF0.trans hf
    have hv1 := tv_fr hv0 hf
    have hd0 := not0 e1
    refine g_ald0 eX1_unit_93 ?_
    refine g_ild1 eX1_unit_94 ?_
    refine g_iconst (v := 1) (by decide) eX1_unit_95 ?_
    refine g_iadd eX1_unit_96 ?_
    rw [hdep hd0]
    refine g_callVi (ci := 1) ((hs hd0).1 u1 s1 hv1 hg1) rfl (Nat.le_of_ble_eq_true rfl) (Nat.le_of_ble_eq_true rfl) rfl cv_X1_82 eX1_unit_97 (rm_ok (by omega)) rfl rfl (Nat.le_of_ble_eq_true rfl) (fun r u2 h => ?_)
    rcases e2 : sumF K (prodF K (unitF K (d - 1))) s1 with x | s2
    · rw [e2] at h
      obtain ⟨hf, rfl, hx⟩ := h
      refine g_if_eq eX1_unit_100 (fun hb => ?_) (fun hb => ?_)
      · refine g_iconst (v := 0) (by decide) eX1_unit_116 ?_
        exact g_zret (ty := .boolean) rfl (by first | rfl | assumption) eX1_unit_117 ⟨_, rfl, ((gfail (hR1.trans (gb_no e2)) (hF1.trans hf) hx))⟩
      · exact absurd rfl hb
    rw [e2] at h
    obtain ⟨hf, rfl, hg2⟩ := h
    refine g_if_eq eX1_unit_100 (fun hb => ?_) (fun hb => ?_)
    · exact absurd hb (by decide)
    have hR2 := hR1.trans (gb_ok e2)
    have hF2 := hF1.trans hf
    have hv2 := tv_fr hv1 hf
    refine g_ald0 eX1_unit_103 ?_
    refine g_bipush (v := 41) (by decide) eX1_unit_104 ?_
    refine g_callVi (ci := 1) (m_take u2 hv2 hg2 41 (by decide) (by decide)) rfl (Nat.le_of_ble_eq_true rfl) (Nat.le_of_ble_eq_true rfl) rfl cv_X1_76 eX1_unit_106 (rm_ok (by omega)) rfl rfl (Nat.le_of_ble_eq_true rfl) (fun r u3 h => ?_)
    rcases e3 : tkF K 41 s2 with x | s3
    · rw [e3] at h
      obtain ⟨hf, rfl, hx⟩ := h
      refine g_if_eq eX1_unit_109 (fun hb => ?_) (fun hb => ?_)
      · refine g_iconst (v := 0) (by decide) eX1_unit_116 ?_
        exact g_zret (ty := .boolean) rfl (by first | rfl | assumption) eX1_unit_117 ⟨_, rfl, ((gfail (hR2.trans (gb_no e3)) (hF2.trans hf) hx))⟩
      · exact absurd rfl hb
    rw [e3] at h
    obtain ⟨hf, rfl, hg3⟩ := h
    refine g_if_eq eX1_unit_109 (fun hb => ?_) (fun hb => ?_)
    · exact absurd hb (by decide)
    have hR3 := hR2.trans (gb_ok e3)
    have hF3 := hF2.trans hf
    have hv3 := tv_fr hv2 hf
    refine g_iconst (v := 1) (by decide) eX1_unit_112 ?_
    refine g_goto eX1_unit_113 ?_
    exact g_zret (ty := .boolean) rfl (by first | rfl | assumption) eX1_unit_117 ⟨_, rfl, (gwell hR3 hF3 hg3)⟩
  by_cases k8 : K s.1 = 8
  · have hq : (nI (K s.1)).toInt = 8 := by rw [hxt, k8]; rfl
    refine g_lookup (off := 109) (tgt := 118) eX1_unit_9 (by decide) (by rw [hq]; rfl) (by decide) ?_
    have hR0 := hR.symm.trans (unitF_c k8)
    refine g_ald0 eX1_unit_118 ?_
    refine g_ild1 eX1_unit_119 ?_
    refine g_callVi (ci := 1) (m_goWithin st hv0 hg0 (by omega) d hd) rfl (Nat.le_of_ble_eq_true rfl) (Nat.le_of_ble_eq_true rfl) rfl cv_X1_96 eX1_unit_120 (rm_ok (by omega)) rfl rfl (Nat.le_of_ble_eq_true rfl) (fun r u1 h => ?_)
    rcases e1 : (if d = 0 then Sum.inl (2, s.1) else psF s : GR) with x | s1
    · rw [e1] at h
      obtain ⟨hf, rfl, hx⟩ := h
      refine g_if_eq eX1_unit_123 (fun hb => ?_) (fun hb => ?_)
      · refine g_iconst (v := 0) (by decide) eX1_unit_170 ?_
        exact g_zret (ty := .boolean) rfl (by first | rfl | assumption) eX1_unit_171 ⟨_, rfl, ((gfail (hR0.trans (gb_no e1)) (hF0.trans hf) hx))⟩
      · exact absurd rfl hb
    rw [e1] at h
    obtain ⟨hf, rfl, hg1⟩ := h
    refine g_if_eq eX1_unit_123 (fun hb => ?_) (fun hb => ?_)
    · exact absurd hb (by decide)
    have hR1 := hR0.trans (gb_ok e1)
    have hF1 := hF0.trans hf
    have hv1 := tv_fr hv0 hf
    have hd0 := not0 e1
    refine g_ald0 eX1_unit_126 ?_
    refine g_ild1 eX1_unit_127 ?_
    refine g_iconst (v := 1) (by decide) eX1_unit_128 ?_
    refine g_iadd eX1_unit_129 ?_
    rw [hdep hd0]
    refine g_callVi (ci := 1) ((hs hd0).2 u1 s1 hv1 hg1) rfl (Nat.le_of_ble_eq_true rfl) (Nat.le_of_ble_eq_true rfl) rfl cv_X1_93 eX1_unit_130 (rm_ok (by omega)) rfl rfl (Nat.le_of_ble_eq_true rfl) (fun r u2 h => ?_)
    rcases e2 : unitF K (d - 1) s1 with x | s2
    · rw [e2] at h
      obtain ⟨hf, rfl, hx⟩ := h
      refine g_if_eq eX1_unit_133 (fun hb => ?_) (fun hb => ?_)
      · refine g_iconst (v := 0) (by decide) eX1_unit_170 ?_
        exact g_zret (ty := .boolean) rfl (by first | rfl | assumption) eX1_unit_171 ⟨_, rfl, ((gfail (hR1.trans (gb_no e2)) (hF1.trans hf) hx))⟩
      · exact absurd rfl hb
    rw [e2] at h
    obtain ⟨hf, rfl, hg2⟩ := h
    refine g_if_eq eX1_unit_133 (fun hb => ?_) (fun hb => ?_)
    · exact absurd hb (by decide)
    have hR2 := hR1.trans (gb_ok e2)
    have hF2 := hF1.trans hf
    have hv2 := tv_fr hv1 hf
    refine g_ald0 eX1_unit_136 ?_
    refine g_ild1 eX1_unit_137 ?_
    refine g_iconst (v := 1) (by decide) eX1_unit_138 ?_
    refine g_iadd eX1_unit_139 ?_
    rw [hdep hd0]
    refine g_callVi (ci := 1) ((hs hd0).2 u2 s2 hv2 hg2) rfl (Nat.le_of_ble_eq_true rfl) (Nat.le_of_ble_eq_true rfl) rfl cv_X1_93 eX1_unit_140 (rm_ok (by omega)) rfl rfl (Nat.le_of_ble_eq_true rfl) (fun r u3 h => ?_)
    rcases e3 : unitF K (d - 1) s2 with x | s3
    · rw [e3] at h
      obtain ⟨hf, rfl, hx⟩ := h
      refine g_if_eq eX1_unit_143 (fun hb => ?_) (fun hb => ?_)
      · refine g_iconst (v := 0) (by decide) eX1_unit_170 ?_
        exact g_zret (ty := .boolean) rfl (by first | rfl | assumption) eX1_unit_171 ⟨_, rfl, ((gfail (hR2.trans (gb_no e3)) (hF2.trans hf) hx))⟩
      · exact absurd rfl hb
    rw [e3] at h
    obtain ⟨hf, rfl, hg3⟩ := h
    refine g_if_eq eX1_unit_143 (fun hb => ?_) (fun hb => ?_)
    · exact absurd hb (by decide)
    have hR3 := hR2.trans (gb_ok e3)
    have hF3 := hF2.trans hf
    have hv3 := tv_fr hv2 hf
    refine g_ald0 eX1_unit_146 ?_
    refine g_ild1 eX1_unit_147 ?_
    refine g_iconst (v := 1) (by decide) eX1_unit_148 ?_
    refine g_iadd eX1_unit_149 ?_
    rw [hdep hd0]
    refine g_callVi (ci := 1) ((hs hd0).2 u3 s3 hv3 hg3) rfl (Nat.le_of_ble_eq_true rfl) (Nat.le_of_ble_eq_true rfl) rfl cv_X1_93 eX1_unit_150 (rm_ok (by omega)) rfl rfl (Nat.le_of_ble_eq_true rfl) (fun r u4 h => ?_)
    rcases e4 : unitF K (d - 1) s3 with x | s4
    · rw [e4] at h
      obtain ⟨hf, rfl, hx⟩ := h
      refine g_if_eq eX1_unit_153 (fun hb => ?_) (fun hb => ?_)
      · refine g_iconst (v := 0) (by decide) eX1_unit_170 ?_
        exact g_zret (ty := .boolean) rfl (by first | rfl | assumption) eX1_unit_171 ⟨_, rfl, ((gfail (hR3.trans (gb_no e4)) (hF3.trans hf) hx))⟩
      · exact absurd rfl hb
    rw [e4] at h
    obtain ⟨hf, rfl, hg4⟩ := h
    refine g_if_eq eX1_unit_153 (fun hb => ?_) (fun hb => ?_)
    · exact absurd hb (by decide)
    have hR4 := hR3.trans (gb_ok e4)
    have hF4 := hF3.trans hf
    have hv4 := tv_fr hv3 hf
    refine g_ald0 eX1_unit_156 ?_
    refine g_bipush (v := 8) (by decide) eX1_unit_157 ?_
    refine g_ild2 eX1_unit_159 ?_
    rw [show (8 : Int32) = nI 8 from rfl]
    refine g_callVi (ci := 1) (m_writeDown u4 hg4 8 s.1) rfl (Nat.le_of_ble_eq_true rfl) (Nat.le_of_ble_eq_true rfl) rfl cv_X1_85 eX1_unit_160 (rm_ok (by omega)) rfl rfl (Nat.le_of_ble_eq_true rfl) (fun r u5 h => ?_)
    obtain ⟨hf, rfl, hg5⟩ := h
    refine g_if_eq eX1_unit_163 (fun hb => ?_) (fun hb => ?_)
    · exact absurd hb (by decide)
    · refine g_iconst (v := 1) (by decide) eX1_unit_166 ?_
      refine g_goto eX1_unit_167 ?_
      exact g_zret (ty := .boolean) rfl (by first | rfl | assumption) eX1_unit_171 ⟨_, rfl, (gwell hR4 (hF4.trans hf) hg5)⟩
  by_cases k9 : K s.1 = 9
  · have hq : (nI (K s.1)).toInt = 9 := by rw [hxt, k9]; rfl
    refine g_lookup (off := 163) (tgt := 172) eX1_unit_9 (by decide) (by rw [hq]; rfl) (by decide) ?_
    have hR0 := hR.symm.trans (unitF_a k9)
    refine g_ald0 eX1_unit_172 ?_
    refine g_ild1 eX1_unit_173 ?_
    refine g_callVi (ci := 1) (m_goWithin st hv0 hg0 (by omega) d hd) rfl (Nat.le_of_ble_eq_true rfl) (Nat.le_of_ble_eq_true rfl) rfl cv_X1_96 eX1_unit_174 (rm_ok (by omega)) rfl rfl (Nat.le_of_ble_eq_true rfl) (fun r u1 h => ?_)
    rcases e1 : (if d = 0 then Sum.inl (2, s.1) else psF s : GR) with x | s1
    · rw [e1] at h
      obtain ⟨hf, rfl, hx⟩ := h
      refine g_if_eq eX1_unit_177 (fun hb => ?_) (fun hb => ?_)
      · refine g_iconst (v := 0) (by decide) eX1_unit_214 ?_
        exact g_zret (ty := .boolean) rfl (by first | rfl | assumption) eX1_unit_215 ⟨_, rfl, ((gfail (hR0.trans (gb_no e1)) (hF0.trans hf) hx))⟩
      · exact absurd rfl hb
    rw [e1] at h
    obtain ⟨hf, rfl, hg1⟩ := h
    refine g_if_eq eX1_unit_177 (fun hb => ?_) (fun hb => ?_)
    · exact absurd hb (by decide)
    have hR1 := hR0.trans (gb_ok e1)
    have hF1 := hF0.trans hf
    have hv1 := tv_fr hv0 hf
    have hd0 := not0 e1
    refine g_ald0 eX1_unit_180 ?_
    refine g_iconst (v := 2) (by decide) eX1_unit_181 ?_
    refine g_callVi (ci := 1) (m_take u1 hv1 (gev hg1 4 s1.1) 2 (by decide) (by decide)) rfl (Nat.le_of_ble_eq_true rfl) (Nat.le_of_ble_eq_true rfl) rfl cv_X1_76 eX1_unit_182 (rm_ok (by omega)) rfl rfl (Nat.le_of_ble_eq_true rfl) (fun r u2 h => ?_)
    rcases e2 : tkF K 2 (gvF 4 s1.1 s1) with x | s2
    · rw [e2] at h
      obtain ⟨hf, rfl, hx⟩ := h
      refine g_if_eq eX1_unit_185 (fun hb => ?_) (fun hb => ?_)
      · refine g_iconst (v := 0) (by decide) eX1_unit_214 ?_
        exact g_zret (ty := .boolean) rfl (by first | rfl | assumption) eX1_unit_215 ⟨_, rfl, ((gfail (hR1.trans (gb_no e2)) (hF1.trans hf) hx))⟩
      · exact absurd rfl hb
    rw [e2] at h
    obtain ⟨hf, rfl, hg2⟩ := h
    refine g_if_eq eX1_unit_185 (fun hb => ?_) (fun hb => ?_)
    · exact absurd hb (by decide)
    have hR2 := hR1.trans (gb_ok e2)
    have hF2 := hF1.trans hf
    have hv2 := tv_fr hv1 hf
    refine g_ald0 eX1_unit_188 ?_
    refine g_ild1 eX1_unit_189 ?_
    refine g_iconst (v := 1) (by decide) eX1_unit_190 ?_
    refine g_iadd eX1_unit_191 ?_
    rw [hdep hd0]
    refine g_callVi (ci := 1) ((hs hd0).2 u2 s2 hv2 hg2) rfl (Nat.le_of_ble_eq_true rfl) (Nat.le_of_ble_eq_true rfl) rfl cv_X1_93 eX1_unit_192 (rm_ok (by omega)) rfl rfl (Nat.le_of_ble_eq_true rfl) (fun r u3 h => ?_)
    rcases e3 : unitF K (d - 1) s2 with x | s3
    · rw [e3] at h
      obtain ⟨hf, rfl, hx⟩ := h
      refine g_if_eq eX1_unit_195 (fun hb => ?_) (fun hb => ?_)
      · refine g_iconst (v := 0) (by decide) eX1_unit_214 ?_
        exact g_zret (ty := .boolean) rfl (by first | rfl | assumption) eX1_unit_215 ⟨_, rfl, ((gfail (hR2.trans (gb_no e3)) (hF2.trans hf) hx))⟩
      · exact absurd rfl hb
    rw [e3] at h
    obtain ⟨hf, rfl, hg3⟩ := h
    refine g_if_eq eX1_unit_195 (fun hb => ?_) (fun hb => ?_)
    · exact absurd hb (by decide)
    have hR3 := hR2.trans (gb_ok e3)
    have hF3 := hF2.trans hf
    have hv3 := tv_fr hv2 hf
    refine g_ald0 eX1_unit_198 ?_
    refine g_bipush (v := 9) (by decide) eX1_unit_199 ?_
    refine g_ild2 eX1_unit_201 ?_
    refine g_iconst (v := 1) (by decide) eX1_unit_202 ?_
    refine g_iadd eX1_unit_203 ?_
    rw [show (9 : Int32) = nI 9 from rfl, show nI s.1 + 1 = nI (s.1 + 1) from nI_1 _]
    refine g_callVi (ci := 1) (m_writeDown u3 hg3 9 (s.1 + 1)) rfl (Nat.le_of_ble_eq_true rfl) (Nat.le_of_ble_eq_true rfl) rfl cv_X1_85 eX1_unit_204 (rm_ok (by omega)) rfl rfl (Nat.le_of_ble_eq_true rfl) (fun r u5 h => ?_)
    obtain ⟨hf, rfl, hg5⟩ := h
    refine g_if_eq eX1_unit_207 (fun hb => ?_) (fun hb => ?_)
    · exact absurd hb (by decide)
    · refine g_iconst (v := 1) (by decide) eX1_unit_210 ?_
      refine g_goto eX1_unit_211 ?_
      exact g_zret (ty := .boolean) rfl (by first | rfl | assumption) eX1_unit_215 ⟨_, rfl, (gwell hR3 (hF3.trans hf) hg5)⟩
  · refine g_lookup (off := 207) (tgt := 216) eX1_unit_9 (by decide) (by simp only [Op.lookupswitch.offset_cons]; rw [if_neg (by omega), if_neg (by omega), if_neg (by omega), if_neg (by omega), if_neg (by omega)]; rfl) (by decide) ?_
    have hR0 := hR.symm.trans (unitF_n (d := d) (show ¬ (K s.1 = 2 ∨ K s.1 = 3 ∨ K s.1 = 40 ∨ K s.1 = 8 ∨ K s.1 = 9) by omega))
    refine g_ald0 eX1_unit_216 ?_
    refine g_iconst (v := 1) (by decide) eX1_unit_217 ?_
    refine g_callVi (ci := 1) (m_refuse st hv hg 1) rfl (Nat.le_of_ble_eq_true rfl) (Nat.le_of_ble_eq_true rfl) rfl cv_X1_68 eX1_unit_218 (rm_ok (by omega)) rfl rfl (Nat.le_of_ble_eq_true rfl) (fun r u h => ?_)
    obtain ⟨hf, rfl, hx⟩ := h
    exact g_zret (ty := .boolean) rfl (by first | rfl | assumption) eX1_unit_221 ⟨_, rfl, (gfail hR0 hf hx)⟩
theorem m_gall : ∀ d, d ≤ 6 → uC l D cy K P d ∧ pC l D cy K P d ∧ sC l D cy K P d
  | 0, h => by
    have hu : uC l D cy K P 0 := m_unit h (fun q => absurd rfl q)
    exact ⟨hu, m_product h hu, m_sum h (m_product h hu)⟩
  | d + 1, h => by
    have ih := m_gall d (by omega)
    have hu : uC l D cy K P (d + 1) := m_unit h (fun _ => ⟨ih.2.2, ih.1⟩)
    exact ⟨hu, m_product h hu, m_sum h (m_product h hu)⟩
theorem m_expr (st : St) (s : GS) (hv : tvOK K P st) (hg : gOK K st s) : Mi l D cy 22 YX1_sum [.ref 3, .int 0] st (gPost K P st (exprF K s)) := (m_gall 6 (by omega)).2.2 st s hv hg
/-- nothing but the grammar's own -/
def tFr (st u : St) : Prop := (∀ a, a ≠ 3 → a ≠ 8 → a ≠ 9 → u.1 a = st.1 a) ∧ u.2 = st.2
def ctOK (u : St) (c : CT) : Prop := u.1 3 6 = nI c.1 ∧ u.1 3 7 = nI c.2.1 ∧ u.1 3 8 = nI c.2.2
def tPost (K P : Nat → Nat) (st : St) (R : GR) (c : CT) (r : Int32) (u : St) : Prop := tFr st u ∧ ctOK u c ∧ match R with
  | .inl e => r = 0 ∧ gBad P u e
  | .inr s => r = 1 ∧ gOK K u s
theorem tfin {st u0 : St} {R : GR} {c : CT} (h1 : tFr st u0) (h2 : ctOK u0 c) {r : Int32} {u : St} (h : gPost K P u0 R r u) : tPost K P st R c r u := by
  have key : gFr u0 u → tFr st u ∧ ctOK u c := by
    intro hf
    refine ⟨⟨fun a h3 h8 h9 => (hf.1 a h3 h8 h9).trans (h1.1 a h3 h8 h9), hf.2.1.trans h1.2⟩, ?_, ?_, ?_⟩
    · rw [hf.2.2.1]; exact h2.1
    · rw [hf.2.2.2.1]; exact h2.2.1
    · rw [hf.2.2.2.2]; exact h2.2.2
  cases R with
  | inl e => exact ⟨(key h.1).1, (key h.1).2, h.2⟩
  | inr s => exact ⟨(key h.1).1, (key h.1).2, h.2⟩
theorem tFr_put (st : St) (j : Nat) (x : Int32) : tFr st (sI st 3 j x) := ⟨fun a h3 _ _ => sI_row h3, rfl⟩
theorem tFr.refl (st : St) : tFr st st := ⟨fun _ _ _ _ => rfl, rfl⟩
theorem tFr.trans {a b c : St} (h1 : tFr a b) (h2 : tFr b c) : tFr a c := ⟨fun k h3 h8 h9 => (h2.1 k h3 h8 h9).trans (h1.1 k h3 h8 h9), h2.2.trans h1.2⟩
theorem tv_tfr {st u : St} (h : tvOK K P st) (hf : tFr st u) : tvOK K P u := by
  intro k hk hj
  rw [hf.1 5 (by decide) (by decide) (by decide), hf.1 6 (by decide) (by decide) (by decide)]
  exact h k hk hj
theorem gOK_cnt {st : St} {s : GS} (h : gOK K st s) {j : Nat} (x : Int32) (hj : j = 6 ∨ j = 7 ∨ j = 8) : gOK K (sI st 3 j x) s := by
  obtain ⟨h1, h2, h3, h4, h5⟩ := h
  refine ⟨?_, h2, h3, ⟨?_, ?_, ?_⟩, h5⟩
  · rw [sI_1, if_neg (by omega)]; exact h1
  · rw [sI_1, if_neg (by omega)]; exact h4.1
  · rw [sI_1, if_neg (by omega)]; exact h4.2.1
  · rw [sI_1, if_neg (by omega)]; exact h4.2.2
theorem m_tell (st : St) (s : GS) (c : CT) (hv : tvOK K P st) (hg : gOK K st s) (hc : ctOK st c) (hc3 : c.1 ≤ 301 ∧ c.2.1 ≤ 301 ∧ c.2.2 ≤ 301) : Mi l D cy 23 YX1_tell [.ref 3] st (tPost K P st (tellF K c s) (ctF (K s.1) c)) := by
  have hk9 := (hv s.1 hg.2.1 hg.2.2.1).2.2
  have hxt : (nI (K s.1)).toInt = (K s.1 : Int) := nI_toInt (by omega)
  generalize hR : tellF K c s = R
  generalize hC : ctF (K s.1) c = C
  refine M.ofG [some (.ref 3), none] (by decide) (Nat.le_of_ble_eq_true rfl) rfl ?_
  intro xp xe xs xm xa xb xme xc xad xA
  refine g_ald0 eX1_tell_0 ?_
  refine g_getI (ci := 1) (j := 5) rfl (Nat.le_of_ble_eq_true rfl) (Nat.le_of_ble_eq_true rfl) (Nat.le_of_ble_eq_true rfl) rfl fl_X1_32 eX1_tell_1 ?_
  rw [hg.1]
  refine g_ist1 rfl (Nat.le_of_ble_eq_true rfl) eX1_tell_4 ?_
  refine g_ald0 eX1_tell_5 ?_
  refine g_callVi (ci := 1) (m_now st hv hg) rfl (Nat.le_of_ble_eq_true rfl) (Nat.le_of_ble_eq_true rfl) rfl cv_X1_51 eX1_tell_6 (rm_ok (by omega)) rfl rfl (Nat.le_of_ble_eq_true rfl) (fun r st h => ?_)
  obtain ⟨rfl, rfl⟩ := h
  by_cases k4 : K s.1 = 4
  · have hq : (nI (K s.1)).toInt = 4 := by rw [hxt, k4]; rfl
    refine g_tableIn (off := 31) (tgt := 40) eX1_tell_9 (by omega) (by omega) (by rw [hq]; rfl) (by decide) ?_
    have hR0 : R = gb (if 6 < c.1 + 1 then Sum.inl (2, s.1) else psF s : GR) (fun s1 => gb (tkF K 2 (gvF 0 s1.1 s1)) (fun s2 => gb (tkF K 59 s2) .inr)) := by rw [← hR]; unfold tellF; rw [if_pos k4]
    refine g_ald0 eX1_tell_40 ?_
    refine g_dup rfl eX1_tell_41 ?_
    refine g_getI (ci := 1) (j := 6) rfl (Nat.le_of_ble_eq_true rfl) (Nat.le_of_ble_eq_true rfl) (Nat.le_of_ble_eq_true rfl) rfl fl_X1_35 eX1_tell_42 ?_
    refine g_iconst (v := 1) (by decide) eX1_tell_45 ?_
    refine g_iadd eX1_tell_46 ?_
    rw [hc.1, show nI c.1 + 1 = nI (c.1 + 1) from nI_1 _]
    refine g_putI (ci := 1) (j := 6) rfl rfl (Nat.le_of_ble_eq_true rfl) (Nat.le_of_ble_eq_true rfl) (Nat.le_of_ble_eq_true rfl) rfl fl_X1_35 eX1_tell_47 ?_
    refine g_ald0 eX1_tell_50 ?_
    refine g_ald0 eX1_tell_51 ?_
    refine g_getI (ci := 1) (j := 6) rfl (Nat.le_of_ble_eq_true rfl) (Nat.le_of_ble_eq_true rfl) (Nat.le_of_ble_eq_true rfl) rfl fl_X1_35 eX1_tell_52 ?_
    generalize hu : sI st 3 6 (nI (c.1 + 1)) = u0
    have t0 : tFr st u0 := by rw [← hu]; exact tFr_put _ _ _
    have c0 : ctOK u0 C := by
      rw [← hu, ← hC, k4]
      exact ⟨by rw [sI_1, if_pos ⟨rfl, rfl⟩]; rfl, by rw [sI_1, if_neg (by omega)]; exact hc.2.1, by rw [sI_1, if_neg (by omega)]; exact hc.2.2⟩
    have hg0 : gOK K u0 s := by rw [← hu]; exact gOK_cnt hg _ (by omega)
    have hv0 := tv_tfr hv t0
    have hF0 := gFr.refl u0
    rw [show u0.1 3 6 = nI (c.1 + 1) by rw [← hu, sI_1, if_pos ⟨rfl, rfl⟩]]
    refine g_bipush (v := 6) (by decide) eX1_tell_55 ?_
    refine g_callVi (ci := 1) (m_wordWithin u0 hv0 hg0 (by omega) (c.1 + 1) 6 (by omega) (by omega)) rfl (Nat.le_of_ble_eq_true rfl) (Nat.le_of_ble_eq_true rfl) rfl cv_X1_72 eX1_tell_57 (rm_ok (by omega)) rfl rfl (Nat.le_of_ble_eq_true rfl) (fun r u1 h => ?_)
    rcases e1 : (if 6 < c.1 + 1 then Sum.inl (2, s.1) else psF s : GR) with x | s1
    · rw [e1] at h
      obtain ⟨hf, rfl, hx⟩ := h
      refine g_if_eq eX1_tell_60 (fun hb => ?_) (fun hb => ?_)
      · refine g_iconst (v := 0) (by decide) eX1_tell_84 ?_
        exact g_zret (ty := .boolean) rfl (by first | rfl | assumption) eX1_tell_85 ⟨_, rfl, (tfin t0 c0 (gfail (hR0.trans (gb_no e1)) (hF0.trans hf) hx))⟩
      · exact absurd rfl hb
    rw [e1] at h
    obtain ⟨hf, rfl, hg1⟩ := h
    refine g_if_eq eX1_tell_60 (fun hb => ?_) (fun hb => ?_)
    · exact absurd hb (by decide)
    have hR1 := hR0.trans (gb_ok e1)
    have hF1 := hF0.trans hf
    have hv1 := tv_fr hv0 hf
    refine g_ald0 eX1_tell_63 ?_
    refine g_iconst (v := 2) (by decide) eX1_tell_64 ?_
    refine g_callVi (ci := 1) (m_take u1 hv1 (gev hg1 0 s1.1) 2 (by decide) (by decide)) rfl (Nat.le_of_ble_eq_true rfl) (Nat.le_of_ble_eq_true rfl) rfl cv_X1_76 eX1_tell_65 (rm_ok (by omega)) rfl rfl (Nat.le_of_ble_eq_true rfl) (fun r u2 h => ?_)
    rcases e2 : tkF K 2 (gvF 0 s1.1 s1) with x | s2
    · rw [e2] at h
      obtain ⟨hf, rfl, hx⟩ := h
      refine g_if_eq eX1_tell_68 (fun hb => ?_) (fun hb => ?_)
      · refine g_iconst (v := 0) (by decide) eX1_tell_84 ?_
        exact g_zret (ty := .boolean) rfl (by first | rfl | assumption) eX1_tell_85 ⟨_, rfl, (tfin t0 c0 (gfail (hR1.trans (gb_no e2)) (hF1.trans hf) hx))⟩
      · exact absurd rfl hb
    rw [e2] at h
    obtain ⟨hf, rfl, hg2⟩ := h
    refine g_if_eq eX1_tell_68 (fun hb => ?_) (fun hb => ?_)
    · exact absurd hb (by decide)
    have hR2 := hR1.trans (gb_ok e2)
    have hF2 := hF1.trans hf
    have hv2 := tv_fr hv1 hf
    refine g_ald0 eX1_tell_71 ?_
    refine g_bipush (v := 59) (by decide) eX1_tell_72 ?_
    refine g_callVi (ci := 1) (m_take u2 hv2 hg2 59 (by decide) (by decide)) rfl (Nat.le_of_ble_eq_true rfl) (Nat.le_of_ble_eq_true rfl) rfl cv_X1_76 eX1_tell_74 (rm_ok (by omega)) rfl rfl (Nat.le_of_ble_eq_true rfl) (fun r u3 h => ?_)
    rcases e3 : tkF K 59 s2 with x | s3
    · rw [e3] at h
      obtain ⟨hf, rfl, hx⟩ := h
      refine g_if_eq eX1_tell_77 (fun hb => ?_) (fun hb => ?_)
      · refine g_iconst (v := 0) (by decide) eX1_tell_84 ?_
        exact g_zret (ty := .boolean) rfl (by first | rfl | assumption) eX1_tell_85 ⟨_, rfl, (tfin t0 c0 (gfail (hR2.trans (gb_no e3)) (hF2.trans hf) hx))⟩
      · exact absurd rfl hb
    rw [e3] at h
    obtain ⟨hf, rfl, hg3⟩ := h
    refine g_if_eq eX1_tell_77 (fun hb => ?_) (fun hb => ?_)
    · exact absurd hb (by decide)
    have hR3 := hR2.trans (gb_ok e3)
    have hF3 := hF2.trans hf
    have hv3 := tv_fr hv2 hf
    refine g_iconst (v := 1) (by decide) eX1_tell_80 ?_
    refine g_goto eX1_tell_81 ?_
    exact g_zret (ty := .boolean) rfl (by first | rfl | assumption) eX1_tell_85 ⟨_, rfl, (tfin t0 c0 (gwell hR3 hF3 hg3))⟩
  by_cases k5 : K s.1 = 5
  · have hq : (nI (K s.1)).toInt = 5 := by rw [hxt, k5]; rfl
    refine g_tableIn (off := 77) (tgt := 86) eX1_tell_9 (by omega) (by omega) (by rw [hq]; rfl) (by decide) ?_
    have hR0 : R = gb (if 4 < c.2.1 + 1 then Sum.inl (2, s.1) else psF s : GR) (fun s1 => gb (tkF K 2 (gvF 1 s1.1 s1)) (fun s2 => gb (tkF K 58 s2) (fun s3 => gb (numsF K s3) (fun s4 => gb (tkF K 59 s4) .inr)))) := by rw [← hR]; unfold tellF; rw [if_neg k4, if_pos k5]
    refine g_ald0 eX1_tell_86 ?_
    refine g_dup rfl eX1_tell_87 ?_
    refine g_getI (ci := 1) (j := 7) rfl (Nat.le_of_ble_eq_true rfl) (Nat.le_of_ble_eq_true rfl) (Nat.le_of_ble_eq_true rfl) rfl fl_X1_38 eX1_tell_88 ?_
    refine g_iconst (v := 1) (by decide) eX1_tell_91 ?_
    refine g_iadd eX1_tell_92 ?_
    rw [hc.2.1, show nI c.2.1 + 1 = nI (c.2.1 + 1) from nI_1 _]
    refine g_putI (ci := 1) (j := 7) rfl rfl (Nat.le_of_ble_eq_true rfl) (Nat.le_of_ble_eq_true rfl) (Nat.le_of_ble_eq_true rfl) rfl fl_X1_38 eX1_tell_93 ?_
    refine g_ald0 eX1_tell_96 ?_
    refine g_ald0 eX1_tell_97 ?_
    refine g_getI (ci := 1) (j := 7) rfl (Nat.le_of_ble_eq_true rfl) (Nat.le_of_ble_eq_true rfl) (Nat.le_of_ble_eq_true rfl) rfl fl_X1_38 eX1_tell_98 ?_
    generalize hu : sI st 3 7 (nI (c.2.1 + 1)) = u0
    have t0 : tFr st u0 := by rw [← hu]; exact tFr_put _ _ _
    have c0 : ctOK u0 C := by
      rw [← hu, ← hC, k5]
      exact ⟨by rw [sI_1, if_neg (by omega)]; exact hc.1, by rw [sI_1, if_pos ⟨rfl, rfl⟩]; rfl, by rw [sI_1, if_neg (by omega)]; exact hc.2.2⟩
    have hg0 : gOK K u0 s := by rw [← hu]; exact gOK_cnt hg _ (by omega)
    have hv0 := tv_tfr hv t0
    have hF0 := gFr.refl u0
    rw [show u0.1 3 7 = nI (c.2.1 + 1) by rw [← hu, sI_1, if_pos ⟨rfl, rfl⟩]]
    refine g_iconst (v := 4) (by decide) eX1_tell_101 ?_
    refine g_callVi (ci := 1) (m_wordWithin u0 hv0 hg0 (by omega) (c.2.1 + 1) 4 (by omega) (by omega)) rfl (Nat.le_of_ble_eq_true rfl) (Nat.le_of_ble_eq_true rfl) rfl cv_X1_72 eX1_tell_102 (rm_ok (by omega)) rfl rfl (Nat.le_of_ble_eq_true rfl) (fun r u1 h => ?_)
    rcases e1 : (if 4 < c.2.1 + 1 then Sum.inl (2, s.1) else psF s : GR) with x | s1
    · rw [e1] at h
      obtain ⟨hf, rfl, hx⟩ := h
      refine g_if_eq eX1_tell_105 (fun hb => ?_) (fun hb => ?_)
      · refine g_iconst (v := 0) (by decide) eX1_tell_145 ?_
        exact g_zret (ty := .boolean) rfl (by first | rfl | assumption) eX1_tell_146 ⟨_, rfl, (tfin t0 c0 (gfail (hR0.trans (gb_no e1)) (hF0.trans hf) hx))⟩
      · exact absurd rfl hb
    rw [e1] at h
    obtain ⟨hf, rfl, hg1⟩ := h
    refine g_if_eq eX1_tell_105 (fun hb => ?_) (fun hb => ?_)
    · exact absurd hb (by decide)
    have hR1 := hR0.trans (gb_ok e1)
    have hF1 := hF0.trans hf
    have hv1 := tv_fr hv0 hf
    refine g_ald0 eX1_tell_108 ?_
    refine g_iconst (v := 2) (by decide) eX1_tell_109 ?_
    refine g_callVi (ci := 1) (m_take u1 hv1 (gev hg1 1 s1.1) 2 (by decide) (by decide)) rfl (Nat.le_of_ble_eq_true rfl) (Nat.le_of_ble_eq_true rfl) rfl cv_X1_76 eX1_tell_110 (rm_ok (by omega)) rfl rfl (Nat.le_of_ble_eq_true rfl) (fun r u2 h => ?_)
    rcases e2 : tkF K 2 (gvF 1 s1.1 s1) with x | s2
    · rw [e2] at h
      obtain ⟨hf, rfl, hx⟩ := h
      refine g_if_eq eX1_tell_113 (fun hb => ?_) (fun hb => ?_)
      · refine g_iconst (v := 0) (by decide) eX1_tell_145 ?_
        exact g_zret (ty := .boolean) rfl (by first | rfl | assumption) eX1_tell_146 ⟨_, rfl, (tfin t0 c0 (gfail (hR1.trans (gb_no e2)) (hF1.trans hf) hx))⟩
      · exact absurd rfl hb
    rw [e2] at h
    obtain ⟨hf, rfl, hg2⟩ := h
    refine g_if_eq eX1_tell_113 (fun hb => ?_) (fun hb => ?_)
    · exact absurd hb (by decide)
    have hR2 := hR1.trans (gb_ok e2)
    have hF2 := hF1.trans hf
    have hv2 := tv_fr hv1 hf
    refine g_ald0 eX1_tell_116 ?_
    refine g_bipush (v := 58) (by decide) eX1_tell_117 ?_
    refine g_callVi (ci := 1) (m_take u2 hv2 hg2 58 (by decide) (by decide)) rfl (Nat.le_of_ble_eq_true rfl) (Nat.le_of_ble_eq_true rfl) rfl cv_X1_76 eX1_tell_119 (rm_ok (by omega)) rfl rfl (Nat.le_of_ble_eq_true rfl) (fun r u3 h => ?_)
    rcases e3 : tkF K 58 s2 with x | s3
    · rw [e3] at h
      obtain ⟨hf, rfl, hx⟩ := h
      refine g_if_eq eX1_tell_122 (fun hb => ?_) (fun hb => ?_)
      · refine g_iconst (v := 0) (by decide) eX1_tell_145 ?_
        exact g_zret (ty := .boolean) rfl (by first | rfl | assumption) eX1_tell_146 ⟨_, rfl, (tfin t0 c0 (gfail (hR2.trans (gb_no e3)) (hF2.trans hf) hx))⟩
      · exact absurd rfl hb
    rw [e3] at h
    obtain ⟨hf, rfl, hg3⟩ := h
    refine g_if_eq eX1_tell_122 (fun hb => ?_) (fun hb => ?_)
    · exact absurd hb (by decide)
    have hR3 := hR2.trans (gb_ok e3)
    have hF3 := hF2.trans hf
    have hv3 := tv_fr hv2 hf
    refine g_ald0 eX1_tell_125 ?_
    refine g_callVi (ci := 1) (m_numbers u3 s3 hv3 hg3) rfl (Nat.le_of_ble_eq_true rfl) (Nat.le_of_ble_eq_true rfl) rfl cv_X1_79 eX1_tell_126 (rm_ok (by omega)) rfl rfl (Nat.le_of_ble_eq_true rfl) (fun r u4 h => ?_)
    rcases e4 : numsF K s3 with x | s4
    · rw [e4] at h
      obtain ⟨hf, rfl, hx⟩ := h
      refine g_if_eq eX1_tell_129 (fun hb => ?_) (fun hb => ?_)
      · refine g_iconst (v := 0) (by decide) eX1_tell_145 ?_
        exact g_zret (ty := .boolean) rfl (by first | rfl | assumption) eX1_tell_146 ⟨_, rfl, (tfin t0 c0 (gfail (hR3.trans (gb_no e4)) (hF3.trans hf) hx))⟩
      · exact absurd rfl hb
    rw [e4] at h
    obtain ⟨hf, rfl, hg4⟩ := h
    refine g_if_eq eX1_tell_129 (fun hb => ?_) (fun hb => ?_)
    · exact absurd hb (by decide)
    have hR4 := hR3.trans (gb_ok e4)
    have hF4 := hF3.trans hf
    have hv4 := tv_fr hv3 hf
    refine g_ald0 eX1_tell_132 ?_
    refine g_bipush (v := 59) (by decide) eX1_tell_133 ?_
    refine g_callVi (ci := 1) (m_take u4 hv4 hg4 59 (by decide) (by decide)) rfl (Nat.le_of_ble_eq_true rfl) (Nat.le_of_ble_eq_true rfl) rfl cv_X1_76 eX1_tell_135 (rm_ok (by omega)) rfl rfl (Nat.le_of_ble_eq_true rfl) (fun r u5 h => ?_)
    rcases e5 : tkF K 59 s4 with x | s5
    · rw [e5] at h
      obtain ⟨hf, rfl, hx⟩ := h
      refine g_if_eq eX1_tell_138 (fun hb => ?_) (fun hb => ?_)
      · refine g_iconst (v := 0) (by decide) eX1_tell_145 ?_
        exact g_zret (ty := .boolean) rfl (by first | rfl | assumption) eX1_tell_146 ⟨_, rfl, (tfin t0 c0 (gfail (hR4.trans (gb_no e5)) (hF4.trans hf) hx))⟩
      · exact absurd rfl hb
    rw [e5] at h
    obtain ⟨hf, rfl, hg5⟩ := h
    refine g_if_eq eX1_tell_138 (fun hb => ?_) (fun hb => ?_)
    · exact absurd hb (by decide)
    have hR5 := hR4.trans (gb_ok e5)
    have hF5 := hF4.trans hf
    have hv5 := tv_fr hv4 hf
    refine g_iconst (v := 1) (by decide) eX1_tell_141 ?_
    refine g_goto eX1_tell_142 ?_
    exact g_zret (ty := .boolean) rfl (by first | rfl | assumption) eX1_tell_146 ⟨_, rfl, (tfin t0 c0 (gwell hR5 hF5 hg5))⟩
  by_cases k6 : K s.1 = 6
  · have hq : (nI (K s.1)).toInt = 6 := by rw [hxt, k6]; rfl
    refine g_tableIn (off := 138) (tgt := 147) eX1_tell_9 (by omega) (by omega) (by rw [hq]; rfl) (by decide) ?_
    have hR0 : R = gb (psF s) (fun s1 => gb (tkF K 2 (gvF 2 s1.1 s1)) (fun s2 => gb (tkF K 61 s2) (fun s3 => gb (exprF K s3) (fun s4 => gb (tkF K 59 s4) (fun s5 => .inr (gvF 3 (s.1 + 1) (wrF 6 s.1 s5))))))) := by rw [← hR]; unfold tellF; rw [if_neg k4, if_neg k5, if_pos k6]
    have t0 := tFr.refl st
    have c0 : ctOK st C := by
      rw [← hC, k6]
      exact hc
    have hg0 := hg
    have hv0 := hv
    have hF0 := gFr.refl st
    refine g_ald0 eX1_tell_147 ?_
    refine g_callVi (ci := 1) (m_pass st hv0 hg0 (by omega)) rfl (Nat.le_of_ble_eq_true rfl) (Nat.le_of_ble_eq_true rfl) rfl cv_X1_65 eX1_tell_148 (rm_ok (by omega)) rfl rfl (Nat.le_of_ble_eq_true rfl) (fun r u1 h => ?_)
    rcases e1 : psF s with x | s1
    · rw [e1] at h
      obtain ⟨hf, rfl, hx⟩ := h
      refine g_if_eq eX1_tell_151 (fun hb => ?_) (fun hb => ?_)
      · refine g_iconst (v := 0) (by decide) eX1_tell_202 ?_
        exact g_zret (ty := .boolean) rfl (by first | rfl | assumption) eX1_tell_203 ⟨_, rfl, (tfin t0 c0 (gfail (hR0.trans (gb_no e1)) (hF0.trans hf) hx))⟩
      · exact absurd rfl hb
    rw [e1] at h
    obtain ⟨hf, rfl, hg1⟩ := h
    refine g_if_eq eX1_tell_151 (fun hb => ?_) (fun hb => ?_)
    · exact absurd hb (by decide)
    have hR1 := hR0.trans (gb_ok e1)
    have hF1 := hF0.trans hf
    have hv1 := tv_fr hv0 hf
    refine g_ald0 eX1_tell_154 ?_
    refine g_iconst (v := 2) (by decide) eX1_tell_155 ?_
    refine g_callVi (ci := 1) (m_take u1 hv1 (gev hg1 2 s1.1) 2 (by decide) (by decide)) rfl (Nat.le_of_ble_eq_true rfl) (Nat.le_of_ble_eq_true rfl) rfl cv_X1_76 eX1_tell_156 (rm_ok (by omega)) rfl rfl (Nat.le_of_ble_eq_true rfl) (fun r u2 h => ?_)
    rcases e2 : tkF K 2 (gvF 2 s1.1 s1) with x | s2
    · rw [e2] at h
      obtain ⟨hf, rfl, hx⟩ := h
      refine g_if_eq eX1_tell_159 (fun hb => ?_) (fun hb => ?_)
      · refine g_iconst (v := 0) (by decide) eX1_tell_202 ?_
        exact g_zret (ty := .boolean) rfl (by first | rfl | assumption) eX1_tell_203 ⟨_, rfl, (tfin t0 c0 (gfail (hR1.trans (gb_no e2)) (hF1.trans hf) hx))⟩
      · exact absurd rfl hb
    rw [e2] at h
    obtain ⟨hf, rfl, hg2⟩ := h
    refine g_if_eq eX1_tell_159 (fun hb => ?_) (fun hb => ?_)
    · exact absurd hb (by decide)
    have hR2 := hR1.trans (gb_ok e2)
    have hF2 := hF1.trans hf
    have hv2 := tv_fr hv1 hf
    refine g_ald0 eX1_tell_162 ?_
    refine g_bipush (v := 61) (by decide) eX1_tell_163 ?_
    refine g_callVi (ci := 1) (m_take u2 hv2 hg2 61 (by decide) (by decide)) rfl (Nat.le_of_ble_eq_true rfl) (Nat.le_of_ble_eq_true rfl) rfl cv_X1_76 eX1_tell_165 (rm_ok (by omega)) rfl rfl (Nat.le_of_ble_eq_true rfl) (fun r u3 h => ?_)
    rcases e3 : tkF K 61 s2 with x | s3
    · rw [e3] at h
      obtain ⟨hf, rfl, hx⟩ := h
      refine g_if_eq eX1_tell_168 (fun hb => ?_) (fun hb => ?_)
      · refine g_iconst (v := 0) (by decide) eX1_tell_202 ?_
        exact g_zret (ty := .boolean) rfl (by first | rfl | assumption) eX1_tell_203 ⟨_, rfl, (tfin t0 c0 (gfail (hR2.trans (gb_no e3)) (hF2.trans hf) hx))⟩
      · exact absurd rfl hb
    rw [e3] at h
    obtain ⟨hf, rfl, hg3⟩ := h
    refine g_if_eq eX1_tell_168 (fun hb => ?_) (fun hb => ?_)
    · exact absurd hb (by decide)
    have hR3 := hR2.trans (gb_ok e3)
    have hF3 := hF2.trans hf
    have hv3 := tv_fr hv2 hf
    refine g_ald0 eX1_tell_171 ?_
    refine g_iconst (v := 0) (by decide) eX1_tell_172 ?_
    refine g_callVi (ci := 1) (m_expr u3 s3 hv3 hg3) rfl (Nat.le_of_ble_eq_true rfl) (Nat.le_of_ble_eq_true rfl) rfl cv_X1_82 eX1_tell_173 (rm_ok (by omega)) rfl rfl (Nat.le_of_ble_eq_true rfl) (fun r u4 h => ?_)
    rcases e4 : exprF K s3 with x | s4
    · rw [e4] at h
      obtain ⟨hf, rfl, hx⟩ := h
      refine g_if_eq eX1_tell_176 (fun hb => ?_) (fun hb => ?_)
      · refine g_iconst (v := 0) (by decide) eX1_tell_202 ?_
        exact g_zret (ty := .boolean) rfl (by first | rfl | assumption) eX1_tell_203 ⟨_, rfl, (tfin t0 c0 (gfail (hR3.trans (gb_no e4)) (hF3.trans hf) hx))⟩
      · exact absurd rfl hb
    rw [e4] at h
    obtain ⟨hf, rfl, hg4⟩ := h
    refine g_if_eq eX1_tell_176 (fun hb => ?_) (fun hb => ?_)
    · exact absurd hb (by decide)
    have hR4 := hR3.trans (gb_ok e4)
    have hF4 := hF3.trans hf
    have hv4 := tv_fr hv3 hf
    refine g_ald0 eX1_tell_179 ?_
    refine g_bipush (v := 59) (by decide) eX1_tell_180 ?_
    refine g_callVi (ci := 1) (m_take u4 hv4 hg4 59 (by decide) (by decide)) rfl (Nat.le_of_ble_eq_true rfl) (Nat.le_of_ble_eq_true rfl) rfl cv_X1_76 eX1_tell_182 (rm_ok (by omega)) rfl rfl (Nat.le_of_ble_eq_true rfl) (fun r u5 h => ?_)
    rcases e5 : tkF K 59 s4 with x | s5
    · rw [e5] at h
      obtain ⟨hf, rfl, hx⟩ := h
      refine g_if_eq eX1_tell_185 (fun hb => ?_) (fun hb => ?_)
      · refine g_iconst (v := 0) (by decide) eX1_tell_202 ?_
        exact g_zret (ty := .boolean) rfl (by first | rfl | assumption) eX1_tell_203 ⟨_, rfl, (tfin t0 c0 (gfail (hR4.trans (gb_no e5)) (hF4.trans hf) hx))⟩
      · exact absurd rfl hb
    rw [e5] at h
    obtain ⟨hf, rfl, hg5⟩ := h
    refine g_if_eq eX1_tell_185 (fun hb => ?_) (fun hb => ?_)
    · exact absurd hb (by decide)
    have hR5 := hR4.trans (gb_ok e5)
    have hF5 := hF4.trans hf
    have hv5 := tv_fr hv4 hf
    refine g_ald0 eX1_tell_188 ?_
    refine g_bipush (v := 6) (by decide) eX1_tell_189 ?_
    refine g_ild1 eX1_tell_191 ?_
    rw [show (6 : Int32) = nI 6 from rfl]
    refine g_callVi (ci := 1) (m_writeDown u5 hg5 6 s.1) rfl (Nat.le_of_ble_eq_true rfl) (Nat.le_of_ble_eq_true rfl) rfl cv_X1_85 eX1_tell_192 (rm_ok (by omega)) rfl rfl (Nat.le_of_ble_eq_true rfl) (fun r u6 h => ?_)
    obtain ⟨hf, rfl, hg6⟩ := h
    refine g_if_eq eX1_tell_195 (fun hb => ?_) (fun hb => ?_)
    · exact absurd hb (by decide)
    · refine g_iconst (v := 1) (by decide) eX1_tell_198 ?_
      refine g_goto eX1_tell_199 ?_
      exact g_zret (ty := .boolean) rfl (by first | rfl | assumption) eX1_tell_203 ⟨_, rfl, (tfin t0 c0 (gwell hR5 (hF5.trans hf) hg6))⟩
  by_cases k7 : K s.1 = 7
  · have hq : (nI (K s.1)).toInt = 7 := by rw [hxt, k7]; rfl
    refine g_tableIn (off := 195) (tgt := 204) eX1_tell_9 (by omega) (by omega) (by rw [hq]; rfl) (by decide) ?_
    have hR0 : R = gb (if 4 < c.2.2 + 1 then Sum.inl (2, s.1) else psF s : GR) (fun s1 => gb (exprF K s1) (fun s2 => gb (tkF K 59 s2) (fun s3 => .inr (wrF 7 s.1 s3)))) := by rw [← hR]; unfold tellF; rw [if_neg k4, if_neg k5, if_neg k6, if_pos k7]
    refine g_ald0 eX1_tell_204 ?_
    refine g_dup rfl eX1_tell_205 ?_
    refine g_getI (ci := 1) (j := 8) rfl (Nat.le_of_ble_eq_true rfl) (Nat.le_of_ble_eq_true rfl) (Nat.le_of_ble_eq_true rfl) rfl fl_X1_41 eX1_tell_206 ?_
    refine g_iconst (v := 1) (by decide) eX1_tell_209 ?_
    refine g_iadd eX1_tell_210 ?_
    rw [hc.2.2, show nI c.2.2 + 1 = nI (c.2.2 + 1) from nI_1 _]
    refine g_putI (ci := 1) (j := 8) rfl rfl (Nat.le_of_ble_eq_true rfl) (Nat.le_of_ble_eq_true rfl) (Nat.le_of_ble_eq_true rfl) rfl fl_X1_41 eX1_tell_211 ?_
    refine g_ald0 eX1_tell_214 ?_
    refine g_ald0 eX1_tell_215 ?_
    refine g_getI (ci := 1) (j := 8) rfl (Nat.le_of_ble_eq_true rfl) (Nat.le_of_ble_eq_true rfl) (Nat.le_of_ble_eq_true rfl) rfl fl_X1_41 eX1_tell_216 ?_
    generalize hu : sI st 3 8 (nI (c.2.2 + 1)) = u0
    have t0 : tFr st u0 := by rw [← hu]; exact tFr_put _ _ _
    have c0 : ctOK u0 C := by
      rw [← hu, ← hC, k7]
      exact ⟨by rw [sI_1, if_neg (by omega)]; exact hc.1, by rw [sI_1, if_neg (by omega)]; exact hc.2.1, by rw [sI_1, if_pos ⟨rfl, rfl⟩]; rfl⟩
    have hg0 : gOK K u0 s := by rw [← hu]; exact gOK_cnt hg _ (by omega)
    have hv0 := tv_tfr hv t0
    have hF0 := gFr.refl u0
    rw [show u0.1 3 8 = nI (c.2.2 + 1) by rw [← hu, sI_1, if_pos ⟨rfl, rfl⟩]]
    refine g_iconst (v := 4) (by decide) eX1_tell_219 ?_
    refine g_callVi (ci := 1) (m_wordWithin u0 hv0 hg0 (by omega) (c.2.2 + 1) 4 (by omega) (by omega)) rfl (Nat.le_of_ble_eq_true rfl) (Nat.le_of_ble_eq_true rfl) rfl cv_X1_72 eX1_tell_220 (rm_ok (by omega)) rfl rfl (Nat.le_of_ble_eq_true rfl) (fun r u1 h => ?_)
    rcases e1 : (if 4 < c.2.2 + 1 then Sum.inl (2, s.1) else psF s : GR) with x | s1
    · rw [e1] at h
      obtain ⟨hf, rfl, hx⟩ := h
      refine g_if_eq eX1_tell_223 (fun hb => ?_) (fun hb => ?_)
      · refine g_iconst (v := 0) (by decide) eX1_tell_257 ?_
        exact g_zret (ty := .boolean) rfl (by first | rfl | assumption) eX1_tell_258 ⟨_, rfl, (tfin t0 c0 (gfail (hR0.trans (gb_no e1)) (hF0.trans hf) hx))⟩
      · exact absurd rfl hb
    rw [e1] at h
    obtain ⟨hf, rfl, hg1⟩ := h
    refine g_if_eq eX1_tell_223 (fun hb => ?_) (fun hb => ?_)
    · exact absurd hb (by decide)
    have hR1 := hR0.trans (gb_ok e1)
    have hF1 := hF0.trans hf
    have hv1 := tv_fr hv0 hf
    refine g_ald0 eX1_tell_226 ?_
    refine g_iconst (v := 0) (by decide) eX1_tell_227 ?_
    refine g_callVi (ci := 1) (m_expr u1 s1 hv1 hg1) rfl (Nat.le_of_ble_eq_true rfl) (Nat.le_of_ble_eq_true rfl) rfl cv_X1_82 eX1_tell_228 (rm_ok (by omega)) rfl rfl (Nat.le_of_ble_eq_true rfl) (fun r u2 h => ?_)
    rcases e2 : exprF K s1 with x | s2
    · rw [e2] at h
      obtain ⟨hf, rfl, hx⟩ := h
      refine g_if_eq eX1_tell_231 (fun hb => ?_) (fun hb => ?_)
      · refine g_iconst (v := 0) (by decide) eX1_tell_257 ?_
        exact g_zret (ty := .boolean) rfl (by first | rfl | assumption) eX1_tell_258 ⟨_, rfl, (tfin t0 c0 (gfail (hR1.trans (gb_no e2)) (hF1.trans hf) hx))⟩
      · exact absurd rfl hb
    rw [e2] at h
    obtain ⟨hf, rfl, hg2⟩ := h
    refine g_if_eq eX1_tell_231 (fun hb => ?_) (fun hb => ?_)
    · exact absurd hb (by decide)
    have hR2 := hR1.trans (gb_ok e2)
    have hF2 := hF1.trans hf
    have hv2 := tv_fr hv1 hf
    refine g_ald0 eX1_tell_234 ?_
    refine g_bipush (v := 59) (by decide) eX1_tell_235 ?_
    refine g_callVi (ci := 1) (m_take u2 hv2 hg2 59 (by decide) (by decide)) rfl (Nat.le_of_ble_eq_true rfl) (Nat.le_of_ble_eq_true rfl) rfl cv_X1_76 eX1_tell_237 (rm_ok (by omega)) rfl rfl (Nat.le_of_ble_eq_true rfl) (fun r u3 h => ?_)
    rcases e3 : tkF K 59 s2 with x | s3
    · rw [e3] at h
      obtain ⟨hf, rfl, hx⟩ := h
      refine g_if_eq eX1_tell_240 (fun hb => ?_) (fun hb => ?_)
      · refine g_iconst (v := 0) (by decide) eX1_tell_257 ?_
        exact g_zret (ty := .boolean) rfl (by first | rfl | assumption) eX1_tell_258 ⟨_, rfl, (tfin t0 c0 (gfail (hR2.trans (gb_no e3)) (hF2.trans hf) hx))⟩
      · exact absurd rfl hb
    rw [e3] at h
    obtain ⟨hf, rfl, hg3⟩ := h
    refine g_if_eq eX1_tell_240 (fun hb => ?_) (fun hb => ?_)
    · exact absurd hb (by decide)
    have hR3 := hR2.trans (gb_ok e3)
    have hF3 := hF2.trans hf
    have hv3 := tv_fr hv2 hf
    refine g_ald0 eX1_tell_243 ?_
    refine g_bipush (v := 7) (by decide) eX1_tell_244 ?_
    refine g_ild1 eX1_tell_246 ?_
    rw [show (7 : Int32) = nI 7 from rfl]
    refine g_callVi (ci := 1) (m_writeDown u3 hg3 7 s.1) rfl (Nat.le_of_ble_eq_true rfl) (Nat.le_of_ble_eq_true rfl) rfl cv_X1_85 eX1_tell_247 (rm_ok (by omega)) rfl rfl (Nat.le_of_ble_eq_true rfl) (fun r u6 h => ?_)
    obtain ⟨hf, rfl, hg6⟩ := h
    refine g_if_eq eX1_tell_250 (fun hb => ?_) (fun hb => ?_)
    · exact absurd hb (by decide)
    · refine g_iconst (v := 1) (by decide) eX1_tell_253 ?_
      refine g_goto eX1_tell_254 ?_
      exact g_zret (ty := .boolean) rfl (by first | rfl | assumption) eX1_tell_258 ⟨_, rfl, (tfin t0 c0 (gwell hR3 (hF3.trans hf) hg6))⟩
  · refine g_tableOut (tgt := 259) eX1_tell_9 (by omega) (by decide) ?_
    have hR0 : R = .inl (1, s.1) := by rw [← hR]; unfold tellF; rw [if_neg k4, if_neg k5, if_neg k6, if_neg k7]
    have c0 : ctOK st C := by
      rw [← hC]
      unfold ctF
      rw [if_neg k4, if_neg k5, if_neg k7]
      exact hc
    refine g_ald0 eX1_tell_259 ?_
    refine g_iconst (v := 1) (by decide) eX1_tell_260 ?_
    refine g_callVi (ci := 1) (m_refuse st hv hg 1) rfl (Nat.le_of_ble_eq_true rfl) (Nat.le_of_ble_eq_true rfl) rfl cv_X1_68 eX1_tell_261 (rm_ok (by omega)) rfl rfl (Nat.le_of_ble_eq_true rfl) (fun r u h => ?_)
    obtain ⟨hf, rfl, hx⟩ := h
    exact g_zret (ty := .boolean) rfl (by first | rfl | assumption) eX1_tell_264 ⟨_, rfl, (tfin (tFr.refl st) c0 (gfail hR0 hf hx))⟩
end GRAME
