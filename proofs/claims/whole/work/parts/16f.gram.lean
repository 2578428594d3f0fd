/-! GRAMMAR: the class goes down -/
section GRAMD
variable {l : Launch} {D : va_G} {cy : Nat → ClassId} {K P : Nat → Nat}
theorem m_numbers (st : St) (s : GS) (hv : tvOK K P st) (hg : gOK K st s) : Mi l D cy 2 YX1_numbers [.ref 3] st (gPost K P st (numsF K s)) := by
  generalize hR : numsF K s = R
  refine M.ofG [some (.ref 3), none, none] (by decide) (Nat.le_of_ble_eq_true rfl) rfl ?_
  intro xp xe xs xm xa xb xme xc xad xA
  have hdead : ∀ (a : Nat) (u : St) {x : Nat × Nat}, R = .inl x → gFr st u → gBad P u x → G xp l xe (rmd (2)) xs xm xa xb xme xc D cy xad xA (YX1_numbers.2.1, YX1_numbers.1.cls, YX1_numbers.2.2.1, YX1_numbers.2.2.2) (Pi (gPost K P st R)) 8 ([some (.ref 3), some (.int 0), some (.int (nI a))]) ([]) (u) := by
    intro a u x hR hF hx
    refine g_ild2 eX1_numbers_8 ?_
    refine g_sipush (v := 300) (by decide) eX1_numbers_9 ?_
    refine g_icmp_ge eX1_numbers_12 (fun hb => ?_) (fun hb => ?_)
    · refine g_ild1 eX1_numbers_55 ?_
      exact g_zret (ty := .boolean) rfl (by first | rfl | assumption) eX1_numbers_56 ⟨_, rfl, (gfail hR hF hx)⟩
    · refine g_ild1 eX1_numbers_15 ?_
      refine g_if_eq eX1_numbers_16 (fun hb => ?_) (fun hb => ?_)
      · refine g_ild1 eX1_numbers_55 ?_
        exact g_zret (ty := .boolean) rfl (by first | rfl | assumption) eX1_numbers_56 ⟨_, rfl, (gfail hR hF hx)⟩
      · exact absurd rfl hb
  have loop : ∀ (f a : Nat) (u : St) (s : GS), a + f = 300 → tvOK K P u → gOK K u s → gFr st u → R = numsL K f s → G xp l xe (rmd (2)) xs xm xa xb xme xc D cy xad xA (YX1_numbers.2.1, YX1_numbers.1.cls, YX1_numbers.2.2.1, YX1_numbers.2.2.2) (Pi (gPost K P st R)) 8 ([some (.ref 3), some (.int 1), some (.int (nI a))]) ([]) (u) := by
    intro f
    induction f with
    | zero =>
      intro a u s ha hv hg hF hR
      refine g_ild2 eX1_numbers_8 ?_
      refine g_sipush (v := 300) (by decide) eX1_numbers_9 ?_
      refine g_icmp_ge eX1_numbers_12 (fun hb => ?_) (fun hb => ?_)
      · refine g_ild1 eX1_numbers_55 ?_
        exact g_zret (ty := .boolean) rfl (by first | rfl | assumption) eX1_numbers_56 ⟨_, rfl, (gwell hR hF hg)⟩
      · exact absurd (nI_le (a := 300) (b := a) (by omega) (by omega)) hb
    | succ f ih =>
      intro a u0 s0 ha hv0 hg0 hF0 hR
      refine g_ild2 eX1_numbers_8 ?_
      refine g_sipush (v := 300) (by decide) eX1_numbers_9 ?_
      refine g_icmp_ge eX1_numbers_12 (fun hb => ?_) (fun hb => ?_)
      · exact absurd hb (nI_ge (a := a) (b := 300) (by omega) (by omega))
      · refine g_ild1 eX1_numbers_15 ?_
        refine g_if_eq eX1_numbers_16 (fun hb => ?_) (fun hb => ?_)
        · exact absurd hb (by decide)
        · refine g_ald0 eX1_numbers_19 ?_
          refine g_callVi (ci := 1) (m_now u0 hv0 hg0) rfl (Nat.le_of_ble_eq_true rfl) (Nat.le_of_ble_eq_true rfl) rfl cv_X1_51 eX1_numbers_20 ⟨Nat.le_of_ble_eq_true rfl, Nat.le_of_ble_eq_true rfl⟩ rfl rfl (Nat.le_of_ble_eq_true rfl) (fun r u0 h => ?_)
          obtain ⟨rfl, rfl⟩ := h
          have hk9 := (hv0 s0.1 hg0.2.1 hg0.2.2.1).2.2
          refine g_bipush (v := 44) (by decide) eX1_numbers_23 ?_
          refine g_icmp_ne eX1_numbers_25 (fun hb => ?_) (fun hb => ?_)
          · have hb2 : ¬ K s0.1 = 44 := fun q => hb (by rw [q]; rfl)
            rw [numsL, if_neg hb2] at hR
            refine g_ild1 eX1_numbers_55 ?_
            exact g_zret (ty := .boolean) rfl (by first | rfl | assumption) eX1_numbers_56 ⟨_, rfl, (gwell hR hF0 hg0)⟩
          · have hb2 : K s0.1 = 44 := (nI_eq (a := K s0.1) (b := 44) (by omega) (by omega)).mp hb
            rw [numsL, if_pos hb2] at hR
            have hR0 := hR
            have hnx : ∀ (z : Int32) (u : St), G xp l xe (rmd (2)) xs xm xa xb xme xc D cy xad xA (YX1_numbers.2.1, YX1_numbers.1.cls, YX1_numbers.2.2.1, YX1_numbers.2.2.2) (Pi (gPost K P st R)) 8 ([some (.ref 3), some (.int z), some (.int (nI (a + 1)))]) ([]) (u) → G xp l xe (rmd (2)) xs xm xa xb xme xc D cy xad xA (YX1_numbers.2.1, YX1_numbers.1.cls, YX1_numbers.2.2.1, YX1_numbers.2.2.2) (Pi (gPost K P st R)) 48 ([some (.ref 3), some (.int 1), some (.int (nI a))]) ([.int z]) (u) := by
              intro z u h
              refine g_ist1 rfl (Nat.le_of_ble_eq_true rfl) eX1_numbers_48 ?_
              refine g_inc2 rfl (Nat.le_of_ble_eq_true rfl) rfl eX1_numbers_49 ?_
              refine g_goto eX1_numbers_52 ?_
              rw [inc1]
              exact h
            refine g_ald0 eX1_numbers_28 ?_
            refine g_callVi (ci := 1) (m_pass u0 hv0 hg0 (by omega)) rfl (Nat.le_of_ble_eq_true rfl) (Nat.le_of_ble_eq_true rfl) rfl cv_X1_65 eX1_numbers_29 ⟨Nat.le_of_ble_eq_true rfl, Nat.le_of_ble_eq_true rfl⟩ rfl rfl (Nat.le_of_ble_eq_true rfl) (fun r u1 h => ?_)
            rcases e1 : psF s0 with x | s1
            · rw [e1] at h
              obtain ⟨hf, rfl, hx⟩ := h
              refine g_if_eq eX1_numbers_32 (fun hb => ?_) (fun hb => ?_)
              · refine g_iconst (v := 0) (by decide) eX1_numbers_47 ?_
                exact hnx 0 u1 (hdead _ _ (hR0.trans (gb_no e1)) (hF0.trans hf) hx)
              · exact absurd rfl hb
            rw [e1] at h
            obtain ⟨hf, rfl, hg1⟩ := h
            refine g_if_eq eX1_numbers_32 (fun hb => ?_) (fun hb => ?_)
            · exact absurd hb (by decide)
            have hR1 := hR0.trans (gb_ok e1)
            have hF1 := hF0.trans hf
            have hv1 := tv_fr hv0 hf
            refine g_ald0 eX1_numbers_35 ?_
            refine g_iconst (v := 3) (by decide) eX1_numbers_36 ?_
            refine g_callVi (ci := 1) (m_take u1 hv1 hg1 3 (by decide) (by decide)) rfl (Nat.le_of_ble_eq_true rfl) (Nat.le_of_ble_eq_true rfl) rfl cv_X1_76 eX1_numbers_37 ⟨Nat.le_of_ble_eq_true rfl, Nat.le_of_ble_eq_true rfl⟩ rfl rfl (Nat.le_of_ble_eq_true rfl) (fun r u2 h => ?_)
            rcases e2 : tkF K 3 s1 with x | s2
            · rw [e2] at h
              obtain ⟨hf, rfl, hx⟩ := h
              refine g_if_eq eX1_numbers_40 (fun hb => ?_) (fun hb => ?_)
              · refine g_iconst (v := 0) (by decide) eX1_numbers_47 ?_
                exact hnx 0 u2 (hdead _ _ (hR1.trans (gb_no e2)) (hF1.trans hf) hx)
              · exact absurd rfl hb
            rw [e2] at h
            obtain ⟨hf, rfl, hg2⟩ := h
            refine g_if_eq eX1_numbers_40 (fun hb => ?_) (fun hb => ?_)
            · exact absurd hb (by decide)
            have hR2 := hR1.trans (gb_ok e2)
            have hF2 := hF1.trans hf
            have hv2 := tv_fr hv1 hf
            refine g_iconst (v := 1) (by decide) eX1_numbers_43 ?_
            refine g_goto eX1_numbers_44 ?_
            exact hnx 1 u2 (ih (a + 1) u2 s2 (by omega) hv2 hg2 hF2 hR2)
  have hR0 : R = gb (tkF K 3 s) (numsL K 300) := hR.symm
  refine g_ald0 eX1_numbers_0 ?_
  refine g_iconst (v := 3) (by decide) eX1_numbers_1 ?_
  refine g_callVi (ci := 1) (m_take st hv hg 3 (by decide) (by decide)) rfl (Nat.le_of_ble_eq_true rfl) (Nat.le_of_ble_eq_true rfl) rfl cv_X1_76 eX1_numbers_2 ⟨Nat.le_of_ble_eq_true rfl, Nat.le_of_ble_eq_true rfl⟩ rfl rfl (Nat.le_of_ble_eq_true rfl) (fun r u1 h => ?_)
  rcases e1 : tkF K 3 s with x | s1
  · rw [e1] at h
    obtain ⟨hf, rfl, hx⟩ := h
    refine g_ist1 rfl (Nat.le_of_ble_eq_true rfl) eX1_numbers_5 ?_
    refine g_iconst (v := 0) (by decide) eX1_numbers_6 ?_
    refine g_ist2 rfl (Nat.le_of_ble_eq_true rfl) eX1_numbers_7 ?_
    exact hdead 0 u1 (hR0.trans (gb_no e1)) hf hx
  · rw [e1] at h
    obtain ⟨hf, rfl, hg1⟩ := h
    refine g_ist1 rfl (Nat.le_of_ble_eq_true rfl) eX1_numbers_5 ?_
    refine g_iconst (v := 0) (by decide) eX1_numbers_6 ?_
    refine g_ist2 rfl (Nat.le_of_ble_eq_true rfl) eX1_numbers_7 ?_
    exact loop 300 0 u1 s1 rfl (tv_fr hv hf) hg1 hf (hR0.trans (gb_ok e1))
/-- the contracts at what is left of the depth -/
def uC (l : Launch) (D : va_G) (cy : Nat → ClassId) (K P : Nat → Nat) (d : Nat) : Prop := ∀ (st : St) (s : GS), tvOK K P st → gOK K st s → Mi l D cy (2 + 3 * d) YX1_unit [.ref 3, .int (nI (6 - d))] st (gPost K P st (unitF K d s))
def pC (l : Launch) (D : va_G) (cy : Nat → ClassId) (K P : Nat → Nat) (d : Nat) : Prop := ∀ (st : St) (s : GS), tvOK K P st → gOK K st s → Mi l D cy (3 + 3 * d) YX1_product [.ref 3, .int (nI (6 - d))] st (gPost K P st (prodF K (unitF K d) s))
def sC (l : Launch) (D : va_G) (cy : Nat → ClassId) (K P : Nat → Nat) (d : Nat) : Prop := ∀ (st : St) (s : GS), tvOK K P st → gOK K st s → Mi l D cy (4 + 3 * d) YX1_sum [.ref 3, .int (nI (6 - d))] st (gPost K P st (sumF K (prodF K (unitF K d)) s))
theorem m_product {d : Nat} (hd : d ≤ 6) (hu : uC l D cy K P d) : pC l D cy K P d := by
  intro st s hv hg
  generalize hR : prodF K (unitF K d) s = R
  refine M.ofG [some (.ref 3), some (.int (nI (6 - d))), none, none] (by decide) (Nat.le_of_ble_eq_true rfl) rfl ?_
  intro xp xe xs xm xa xb xme xc xad xA
  have hdead : ∀ (a : Nat) (u : St) {x : Nat × Nat}, R = .inl x → gFr st u → gBad P u x → G xp l xe (rmd (3 + 3 * d)) xs xm xa xb xme xc D cy xad xA (YX1_product.2.1, YX1_product.1.cls, YX1_product.2.2.1, YX1_product.2.2.2) (Pi (gPost K P st R)) 8 ([some (.ref 3), some (.int (nI (6 - d))), some (.int 0), some (.int (nI a))]) ([]) (u) := by
    intro a u x hR hF hx
    refine g_ild3 eX1_product_8 ?_
    refine g_sipush (v := 300) (by decide) eX1_product_9 ?_
    refine g_icmp_ge eX1_product_12 (fun hb => ?_) (fun hb => ?_)
    · refine g_ild2 eX1_product_68 ?_
      exact g_zret (ty := .boolean) rfl (by first | rfl | assumption) eX1_product_69 ⟨_, rfl, (gfail hR hF hx)⟩
    · refine g_ild2 eX1_product_15 ?_
      refine g_if_eq eX1_product_16 (fun hb => ?_) (fun hb => ?_)
      · refine g_ild2 eX1_product_68 ?_
        exact g_zret (ty := .boolean) rfl (by first | rfl | assumption) eX1_product_69 ⟨_, rfl, (gfail hR hF hx)⟩
      · exact absurd rfl hb
  have loop : ∀ (f a : Nat) (u : St) (s : GS), a + f = 300 → tvOK K P u → gOK K u s → gFr st u → R = prodL K (unitF K d) f s → G xp l xe (rmd (3 + 3 * d)) xs xm xa xb xme xc D cy xad xA (YX1_product.2.1, YX1_product.1.cls, YX1_product.2.2.1, YX1_product.2.2.2) (Pi (gPost K P st R)) 8 ([some (.ref 3), some (.int (nI (6 - d))), some (.int 1), some (.int (nI a))]) ([]) (u) := by
    intro f
    induction f with
    | zero =>
      intro a u s ha hv hg hF hR
      refine g_ild3 eX1_product_8 ?_
      refine g_sipush (v := 300) (by decide) eX1_product_9 ?_
      refine g_icmp_ge eX1_product_12 (fun hb => ?_) (fun hb => ?_)
      · refine g_ild2 eX1_product_68 ?_
        exact g_zret (ty := .boolean) rfl (by first | rfl | assumption) eX1_product_69 ⟨_, rfl, (gwell hR hF hg)⟩
      · exact absurd (nI_le (a := 300) (b := a) (by omega) (by omega)) hb
    | succ f ih =>
      intro a u0 s0 ha hv0 hg0 hF0 hR
      refine g_ild3 eX1_product_8 ?_
      refine g_sipush (v := 300) (by decide) eX1_product_9 ?_
      refine g_icmp_ge eX1_product_12 (fun hb => ?_) (fun hb => ?_)
      · exact absurd hb (nI_ge (a := a) (b := 300) (by omega) (by omega))
      · refine g_ild2 eX1_product_15 ?_
        refine g_if_eq eX1_product_16 (fun hb => ?_) (fun hb => ?_)
        · exact absurd hb (by decide)
        · refine g_ald0 eX1_product_19 ?_
          refine g_callVi (ci := 1) (m_now u0 hv0 hg0) rfl (Nat.le_of_ble_eq_true rfl) (Nat.le_of_ble_eq_true rfl) rfl cv_X1_51 eX1_product_20 (rm_ok (by omega)) rfl rfl (Nat.le_of_ble_eq_true rfl) (fun r u0 h => ?_)
          obtain ⟨rfl, rfl⟩ := h
          have hk9 := (hv0 s0.1 hg0.2.1 hg0.2.2.1).2.2
          refine g_bipush (v := 42) (by decide) eX1_product_23 ?_
          refine g_icmp_ne eX1_product_25 (fun hb => ?_) (fun hb => ?_)
          · have hb2 : ¬ K s0.1 = 42 := fun q => hb (by rw [q]; rfl)
            rw [prodL, if_neg hb2] at hR
            refine g_ild2 eX1_product_68 ?_
            exact g_zret (ty := .boolean) rfl (by first | rfl | assumption) eX1_product_69 ⟨_, rfl, (gwell hR hF0 hg0)⟩
          · have hb2 : K s0.1 = 42 := (nI_eq (a := K s0.1) (b := 42) (by omega) (by omega)).mp hb
            rw [prodL, if_pos hb2] at hR
            have hR0 := hR
            have hnx : ∀ (z : Int32) (u : St), G xp l xe (rmd (3 + 3 * d)) xs xm xa xb xme xc D cy xad xA (YX1_product.2.1, YX1_product.1.cls, YX1_product.2.2.1, YX1_product.2.2.2) (Pi (gPost K P st R)) 8 ([some (.ref 3), some (.int (nI (6 - d))), some (.int z), some (.int (nI (a + 1)))]) ([]) (u) → G xp l xe (rmd (3 + 3 * d)) xs xm xa xb xme xc D cy xad xA (YX1_product.2.1, YX1_product.1.cls, YX1_product.2.2.1, YX1_product.2.2.2) (Pi (gPost K P st R)) 61 ([some (.ref 3), some (.int (nI (6 - d))), some (.int 1), some (.int (nI a))]) ([.int z]) (u) := by
              intro z u h
              refine g_ist2 rfl (Nat.le_of_ble_eq_true rfl) eX1_product_61 ?_
              refine g_inc3 rfl (Nat.le_of_ble_eq_true rfl) rfl eX1_product_62 ?_
              refine g_goto eX1_product_65 ?_
              rw [inc1]
              exact h
            refine g_ald0 eX1_product_28 ?_
            refine g_callVi (ci := 1) (m_pass u0 hv0 hg0 (by omega)) rfl (Nat.le_of_ble_eq_true rfl) (Nat.le_of_ble_eq_true rfl) rfl cv_X1_65 eX1_product_29 (rm_ok (by omega)) rfl rfl (Nat.le_of_ble_eq_true rfl) (fun r u1 h => ?_)
            rcases e1 : psF s0 with x | s1
            · rw [e1] at h
              obtain ⟨hf, rfl, hx⟩ := h
              refine g_if_eq eX1_product_32 (fun hb => ?_) (fun hb => ?_)
              · refine g_iconst (v := 0) (by decide) eX1_product_60 ?_
                exact hnx 0 u1 (hdead _ _ (hR0.trans (gb_no e1)) (hF0.trans hf) hx)
              · exact absurd rfl hb
            rw [e1] at h
            obtain ⟨hf, rfl, hg1⟩ := h
            refine g_if_eq eX1_product_32 (fun hb => ?_) (fun hb => ?_)
            · exact absurd hb (by decide)
            have hR1 := hR0.trans (gb_ok e1)
            have hF1 := hF0.trans hf
            have hv1 := tv_fr hv0 hf
            refine g_ald0 eX1_product_35 ?_
            refine g_ild1 eX1_product_36 ?_
            refine g_callVi (ci := 1) (hu u1 s1 hv1 hg1) rfl (Nat.le_of_ble_eq_true rfl) (Nat.le_of_ble_eq_true rfl) rfl cv_X1_93 eX1_product_37 (rm_ok (by omega)) rfl rfl (Nat.le_of_ble_eq_true rfl) (fun r u2 h => ?_)
            rcases e2 : unitF K d s1 with x | s2
            · rw [e2] at h
              obtain ⟨hf, rfl, hx⟩ := h
              refine g_if_eq eX1_product_40 (fun hb => ?_) (fun hb => ?_)
              · refine g_iconst (v := 0) (by decide) eX1_product_60 ?_
                exact hnx 0 u2 (hdead _ _ (hR1.trans (gb_no e2)) (hF1.trans hf) hx)
              · exact absurd rfl hb
            rw [e2] at h
            obtain ⟨hf, rfl, hg2⟩ := h
            refine g_if_eq eX1_product_40 (fun hb => ?_) (fun hb => ?_)
            · exact absurd hb (by decide)
            have hR2 := hR1.trans (gb_ok e2)
            have hF2 := hF1.trans hf
            have hv2 := tv_fr hv1 hf
            refine g_ald0 eX1_product_43 ?_
            refine g_bipush (v := 42) (by decide) eX1_product_44 ?_
            refine g_ald0 eX1_product_46 ?_
            refine g_getI (ci := 1) (j := 5) rfl (Nat.le_of_ble_eq_true rfl) (Nat.le_of_ble_eq_true rfl) (Nat.le_of_ble_eq_true rfl) rfl fl_X1_32 eX1_product_47 ?_
            rw [hg2.1, show (42 : Int32) = nI 42 from rfl]
            refine g_callVi (ci := 1) (m_writeDown u2 hg2 42 s2.1) rfl (Nat.le_of_ble_eq_true rfl) (Nat.le_of_ble_eq_true rfl) rfl cv_X1_85 eX1_product_50 (rm_ok (by omega)) rfl rfl (Nat.le_of_ble_eq_true rfl) (fun r u3 h => ?_)
            obtain ⟨hf, rfl, hg3⟩ := h
            refine g_if_eq eX1_product_53 (fun hb => ?_) (fun hb => ?_)
            · exact absurd hb (by decide)
            · refine g_iconst (v := 1) (by decide) eX1_product_56 ?_
              refine g_goto eX1_product_57 ?_
              exact hnx 1 u3 (ih (a + 1) u3 _ (by omega) (tv_fr hv2 hf) hg3 (hF2.trans hf) hR2)
  have hR0 : R = gb (unitF K d s) (prodL K (unitF K d) 300) := hR.symm
  refine g_ald0 eX1_product_0 ?_
  refine g_ild1 eX1_product_1 ?_
  refine g_callVi (ci := 1) (hu st s hv hg) rfl (Nat.le_of_ble_eq_true rfl) (Nat.le_of_ble_eq_true rfl) rfl cv_X1_93 eX1_product_2 (rm_ok (by omega)) rfl rfl (Nat.le_of_ble_eq_true rfl) (fun r u1 h => ?_)
  rcases e1 : unitF K d s with x | s1
  · rw [e1] at h
    obtain ⟨hf, rfl, hx⟩ := h
    refine g_ist2 rfl (Nat.le_of_ble_eq_true rfl) eX1_product_5 ?_
    refine g_iconst (v := 0) (by decide) eX1_product_6 ?_
    refine g_ist3 rfl (Nat.le_of_ble_eq_true rfl) eX1_product_7 ?_
    exact hdead 0 u1 (hR0.trans (gb_no e1)) hf hx
  · rw [e1] at h
    obtain ⟨hf, rfl, hg1⟩ := h
    refine g_ist2 rfl (Nat.le_of_ble_eq_true rfl) eX1_product_5 ?_
    refine g_iconst (v := 0) (by decide) eX1_product_6 ?_
    refine g_ist3 rfl (Nat.le_of_ble_eq_true rfl) eX1_product_7 ?_
    exact loop 300 0 u1 s1 rfl (tv_fr hv hf) hg1 hf (hR0.trans (gb_ok e1))
theorem m_sum {d : Nat} (hd : d ≤ 6) (hp : pC l D cy K P d) : sC l D cy K P d := by
  intro st s hv hg
  generalize hR : sumF K (prodF K (unitF K d)) s = R
  refine M.ofG [some (.ref 3), some (.int (nI (6 - d))), none, none, none] (by decide) (Nat.le_of_ble_eq_true rfl) rfl ?_
  intro xp xe xs xm xa xb xme xc xad xA
  have hdead : ∀ (a : Nat) (y4 : Option Value) (u : St) {x : Nat × Nat}, R = .inl x → gFr st u → gBad P u x → G xp l xe (rmd (4 + 3 * d)) xs xm xa xb xme xc D cy xad xA (YX1_sum.2.1, YX1_sum.1.cls, YX1_sum.2.2.1, YX1_sum.2.2.2) (Pi (gPost K P st R)) 8 ([some (.ref 3), some (.int (nI (6 - d))), some (.int 0), some (.int (nI a)), y4]) ([]) (u) := by
    intro a y4 u x hR hF hx
    refine g_ild3 eX1_sum_8 ?_
    refine g_sipush (v := 300) (by decide) eX1_sum_9 ?_
    refine g_icmp_ge eX1_sum_12 (fun hb => ?_) (fun hb => ?_)
    · refine g_ild2 eX1_sum_83 ?_
      exact g_zret (ty := .boolean) rfl (by first | rfl | assumption) eX1_sum_84 ⟨_, rfl, (gfail hR hF hx)⟩
    · refine g_ild2 eX1_sum_15 ?_
      refine g_if_eq eX1_sum_16 (fun hb => ?_) (fun hb => ?_)
      · refine g_ild2 eX1_sum_83 ?_
        exact g_zret (ty := .boolean) rfl (by first | rfl | assumption) eX1_sum_84 ⟨_, rfl, (gfail hR hF hx)⟩
      · exact absurd rfl hb
  have loop : ∀ (f a : Nat) (y4 : Option Value) (u : St) (s : GS), a + f = 300 → tvOK K P u → gOK K u s → gFr st u → R = sumL K (prodF K (unitF K d)) f s → G xp l xe (rmd (4 + 3 * d)) xs xm xa xb xme xc D cy xad xA (YX1_sum.2.1, YX1_sum.1.cls, YX1_sum.2.2.1, YX1_sum.2.2.2) (Pi (gPost K P st R)) 8 ([some (.ref 3), some (.int (nI (6 - d))), some (.int 1), some (.int (nI a)), y4]) ([]) (u) := by
    intro f
    induction f with
    | zero =>
      intro a y4 u s ha hv hg hF hR
      refine g_ild3 eX1_sum_8 ?_
      refine g_sipush (v := 300) (by decide) eX1_sum_9 ?_
      refine g_icmp_ge eX1_sum_12 (fun hb => ?_) (fun hb => ?_)
      · refine g_ild2 eX1_sum_83 ?_
        exact g_zret (ty := .boolean) rfl (by first | rfl | assumption) eX1_sum_84 ⟨_, rfl, (gwell hR hF hg)⟩
      · exact absurd (nI_le (a := 300) (b := a) (by omega) (by omega)) hb
    | succ f ih =>
      intro a y4 u0 s0 ha hv0 hg0 hF0 hR
      have hk9 := (hv0 s0.1 hg0.2.1 hg0.2.2.1).2.2
      refine g_ild3 eX1_sum_8 ?_
      refine g_sipush (v := 300) (by decide) eX1_sum_9 ?_
      refine g_icmp_ge eX1_sum_12 (fun hb => ?_) (fun hb => ?_)
      · exact absurd hb (nI_ge (a := a) (b := 300) (by omega) (by omega))
      · refine g_ild2 eX1_sum_15 ?_
        refine g_if_eq eX1_sum_16 (fun hb => ?_) (fun hb => ?_)
        · exact absurd hb (by decide)
        · have go : K s0.1 = 43 ∨ K s0.1 = 45 → G xp l xe (rmd (4 + 3 * d)) xs xm xa xb xme xc D cy xad xA (YX1_sum.2.1, YX1_sum.1.cls, YX1_sum.2.2.1, YX1_sum.2.2.2) (Pi (gPost K P st R)) 37 ([some (.ref 3), some (.int (nI (6 - d))), some (.int 1), some (.int (nI a)), y4]) ([]) (u0) := by
            intro hb2
            rw [sumL, if_pos hb2] at hR
            have hR0 := hR
            have hnx : ∀ (z : Int32) (y4 : Option Value) (u : St), G xp l xe (rmd (4 + 3 * d)) xs xm xa xb xme xc D cy xad xA (YX1_sum.2.1, YX1_sum.1.cls, YX1_sum.2.2.1, YX1_sum.2.2.2) (Pi (gPost K P st R)) 8 ([some (.ref 3), some (.int (nI (6 - d))), some (.int z), some (.int (nI (a + 1))), y4]) ([]) (u) → G xp l xe (rmd (4 + 3 * d)) xs xm xa xb xme xc D cy xad xA (YX1_sum.2.1, YX1_sum.1.cls, YX1_sum.2.2.1, YX1_sum.2.2.2) (Pi (gPost K P st R)) 76 ([some (.ref 3), some (.int (nI (6 - d))), some (.int 1), some (.int (nI a)), y4]) ([.int z]) (u) := by
              intro z y4 u h
              refine g_ist2 rfl (Nat.le_of_ble_eq_true rfl) eX1_sum_76 ?_
              refine g_inc3 rfl (Nat.le_of_ble_eq_true rfl) rfl eX1_sum_77 ?_
              refine g_goto eX1_sum_80 ?_
              rw [inc1]
              exact h
            refine g_ald0 eX1_sum_37 ?_
            refine g_callVi (ci := 1) (m_now u0 hv0 hg0) rfl (Nat.le_of_ble_eq_true rfl) (Nat.le_of_ble_eq_true rfl) rfl cv_X1_51 eX1_sum_38 (rm_ok (by omega)) rfl rfl (Nat.le_of_ble_eq_true rfl) (fun r u0 h => ?_)
            obtain ⟨rfl, rfl⟩ := h
            refine g_ist4 rfl (Nat.le_of_ble_eq_true rfl) eX1_sum_41 ?_
            refine g_ald0 eX1_sum_43 ?_
            refine g_callVi (ci := 1) (m_pass u0 hv0 hg0 (by omega)) rfl (Nat.le_of_ble_eq_true rfl) (Nat.le_of_ble_eq_true rfl) rfl cv_X1_65 eX1_sum_44 (rm_ok (by omega)) rfl rfl (Nat.le_of_ble_eq_true rfl) (fun r u1 h => ?_)
            rcases e1 : psF s0 with x | s1
            · rw [e1] at h
              obtain ⟨hf, rfl, hx⟩ := h
              refine g_if_eq eX1_sum_47 (fun hb => ?_) (fun hb => ?_)
              · refine g_iconst (v := 0) (by decide) eX1_sum_75 ?_
                exact hnx 0 _ u1 (hdead _ _ _ (hR0.trans (gb_no e1)) (hF0.trans hf) hx)
              · exact absurd rfl hb
            rw [e1] at h
            obtain ⟨hf, rfl, hg1⟩ := h
            refine g_if_eq eX1_sum_47 (fun hb => ?_) (fun hb => ?_)
            · exact absurd hb (by decide)
            have hR1 := hR0.trans (gb_ok e1)
            have hF1 := hF0.trans hf
            have hv1 := tv_fr hv0 hf
            refine g_ald0 eX1_sum_50 ?_
            refine g_ild1 eX1_sum_51 ?_
            refine g_callVi (ci := 1) (hp u1 s1 hv1 hg1) rfl (Nat.le_of_ble_eq_true rfl) (Nat.le_of_ble_eq_true rfl) rfl cv_X1_90 eX1_sum_52 (rm_ok (by omega)) rfl rfl (Nat.le_of_ble_eq_true rfl) (fun r u2 h => ?_)
            rcases e2 : prodF K (unitF K d) s1 with x | s2
            · rw [e2] at h
              obtain ⟨hf, rfl, hx⟩ := h
              refine g_if_eq eX1_sum_55 (fun hb => ?_) (fun hb => ?_)
              · refine g_iconst (v := 0) (by decide) eX1_sum_75 ?_
                exact hnx 0 _ u2 (hdead _ _ _ (hR1.trans (gb_no e2)) (hF1.trans hf) hx)
              · exact absurd rfl hb
            rw [e2] at h
            obtain ⟨hf, rfl, hg2⟩ := h
            refine g_if_eq eX1_sum_55 (fun hb => ?_) (fun hb => ?_)
            · exact absurd hb (by decide)
            have hR2 := hR1.trans (gb_ok e2)
            have hF2 := hF1.trans hf
            have hv2 := tv_fr hv1 hf
            refine g_ald0 eX1_sum_58 ?_
            refine g_ild4 eX1_sum_59 ?_
            refine g_ald0 eX1_sum_61 ?_
            refine g_getI (ci := 1) (j := 5) rfl (Nat.le_of_ble_eq_true rfl) (Nat.le_of_ble_eq_true rfl) (Nat.le_of_ble_eq_true rfl) rfl fl_X1_32 eX1_sum_62 ?_
            rw [hg2.1]
            refine g_callVi (ci := 1) (m_writeDown u2 hg2 (K s0.1) s2.1) rfl (Nat.le_of_ble_eq_true rfl) (Nat.le_of_ble_eq_true rfl) rfl cv_X1_85 eX1_sum_65 (rm_ok (by omega)) rfl rfl (Nat.le_of_ble_eq_true rfl) (fun r u3 h => ?_)
            obtain ⟨hf, rfl, hg3⟩ := h
            refine g_if_eq eX1_sum_68 (fun hb => ?_) (fun hb => ?_)
            · exact absurd hb (by decide)
            · refine g_iconst (v := 1) (by decide) eX1_sum_71 ?_
              refine g_goto eX1_sum_72 ?_
              exact hnx 1 _ u3 (ih (a + 1) _ u3 _ (by omega) (tv_fr hv2 hf) hg3 (hF2.trans hf) hR2)
          refine g_ald0 eX1_sum_19 ?_
          refine g_callVi (ci := 1) (m_now u0 hv0 hg0) rfl (Nat.le_of_ble_eq_true rfl) (Nat.le_of_ble_eq_true rfl) rfl cv_X1_51 eX1_sum_20 (rm_ok (by omega)) rfl rfl (Nat.le_of_ble_eq_true rfl) (fun r u0 h => ?_)
          obtain ⟨rfl, rfl⟩ := h
          refine g_bipush (v := 43) (by decide) eX1_sum_23 ?_
          refine g_icmp_eq eX1_sum_25 (fun hb => ?_) (fun hb => ?_)
          · exact go (Or.inl ((nI_eq (a := K s0.1) (b := 43) (by omega) (by omega)).mp hb))
          · refine g_ald0 eX1_sum_28 ?_
            refine g_callVi (ci := 1) (m_now u0 hv0 hg0) rfl (Nat.le_of_ble_eq_true rfl) (Nat.le_of_ble_eq_true rfl) rfl cv_X1_51 eX1_sum_29 (rm_ok (by omega)) rfl rfl (Nat.le_of_ble_eq_true rfl) (fun r u0 h => ?_)
            obtain ⟨rfl, rfl⟩ := h
            refine g_bipush (v := 45) (by decide) eX1_sum_32 ?_
            refine g_icmp_ne eX1_sum_34 (fun hb5 => ?_) (fun hb5 => ?_)
            · have hb2 : ¬ (K s0.1 = 43 ∨ K s0.1 = 45) := by
                rintro (q | q)
                · exact hb (by rw [q]; rfl)
                · exact hb5 (by rw [q]; rfl)
              rw [sumL, if_neg hb2] at hR
              refine g_ild2 eX1_sum_83 ?_
              exact g_zret (ty := .boolean) rfl (by first | rfl | assumption) eX1_sum_84 ⟨_, rfl, (gwell hR hF0 hg0)⟩
            · exact go (Or.inr ((nI_eq (a := K s0.1) (b := 45) (by omega) (by omega)).mp hb5))
  have hR0 : R = gb (prodF K (unitF K d) s) (sumL K (prodF K (unitF K d)) 300) := hR.symm
  refine g_ald0 eX1_sum_0 ?_
  refine g_ild1 eX1_sum_1 ?_
  refine g_callVi (ci := 1) (hp st s hv hg) rfl (Nat.le_of_ble_eq_true rfl) (Nat.le_of_ble_eq_true rfl) rfl cv_X1_90 eX1_sum_2 (rm_ok (by omega)) rfl rfl (Nat.le_of_ble_eq_true rfl) (fun r u1 h => ?_)
  rcases e1 : prodF K (unitF K d) s with x | s1
  · rw [e1] at h
    obtain ⟨hf, rfl, hx⟩ := h
    refine g_ist2 rfl (Nat.le_of_ble_eq_true rfl) eX1_sum_5 ?_
    refine g_iconst (v := 0) (by decide) eX1_sum_6 ?_
    refine g_ist3 rfl (Nat.le_of_ble_eq_true rfl) eX1_sum_7 ?_
    exact hdead 0 _ u1 (hR0.trans (gb_no e1)) hf hx
  · rw [e1] at h
    obtain ⟨hf, rfl, hg1⟩ := h
    refine g_ist2 rfl (Nat.le_of_ble_eq_true rfl) eX1_sum_5 ?_
    refine g_iconst (v := 0) (by decide) eX1_sum_6 ?_
    refine g_ist3 rfl (Nat.le_of_ble_eq_true rfl) eX1_sum_7 ?_
    exact loop 300 0 _ u1 s1 rfl (tv_fr hv hf) hg1 hf (hR0.trans (gb_ok e1))
end GRAMD
