/-! THE MODEL PARSES: expression -/
section EXPS
variable {l : Launch} {D : va_G} {cy : Nat → ClassId} {K P V W : Nat → Nat} {Nm : List MN} {bs : Nat}
def exE (K P V W : Nat → Nat) (Nm : List MN) (bs : Nat) (st : St) (B : EA) (R : GR) (u : St) : Prop :=
  (∃ e, R = .inl e ∧ (1 ≤ e.1 ∧ e.1 ≤ 2) ∧ exD P st u e) ∨ (∃ A : EA, R = .inr A.1 ∧ IV K P V W Nm bs st B u A ∧ A.2.2.2.2 = [])
theorem ex_clear {st : St} {A : EA} (h : exOK K st A) : exOK K (sI st 31 49 0) (A.1, A.2.1, A.2.2.1, A.2.2.2.1, []) := by
  obtain ⟨a, b, c, d, e, f⟩ := h
  refine ⟨⟨?_, a.2⟩, ?_, ?_, ⟨?_, d.2⟩, ⟨?_, fun q => ?_, e.2.2⟩, ⟨?_, fun j hj => absurd hj (Nat.not_lt_zero _)⟩⟩
  · rw [sI_1, if_neg (by omega)]; exact a.1
  · rw [sI_1, if_neg (by omega)]; exact b
  · rw [sI_1, if_neg (by omega)]; exact c
  · rw [sI_1, if_neg (by omega)]; exact d.1
  · rw [sI_1, if_neg (by omega)]; exact e.1
  · rw [sI_1, if_neg (by omega)]; exact e.2.1 q
  · rw [sI_1, if_pos ⟨rfl, rfl⟩]; rfl
theorem w_expression (st : St) (hS : SB K P V W Nm bs st) {B : EA} (hB : exOK K st B) (hB0 : B.2.1 = 0) (hB1 : 1 ≤ B.1.1) (hB2 : B.1.2.1.length ≤ B.1.1) (hB3 : B.2.2.1.length ≤ B.1.2.1.length) : Mv l D cy 4 YX12_expression [.ref 31] st (exE K P V W Nm bs st B (exprF K B.1)) := by
  generalize hR : exprF K B.1 = R
  refine M.ofG [some (.ref 31), none, none, none] (by decide) (Nat.le_of_ble_eq_true rfl) rfl ?_
  intro xp xe xs xm xa xb xme xc xad xA
  have hdead : ∀ (u : St) (e : Nat × Nat) (z : Int32) (y2 y3 : Option Value), R = .inl e → 1 ≤ e.1 ∧ e.1 ≤ 2 → exD P st u e → G xp l xe (rmd (4)) xs xm xa xb xme xc D cy xad xA (YX12_expression.2.1, YX12_expression.1.cls, YX12_expression.2.2.1, YX12_expression.2.2.2) (Pv (exE K P V W Nm bs st B R)) 7 ([some (.ref 31), some (.int z), y2, y3]) ([]) (u) := by
    intro u e z y2 y3 hR2 he hd
    refine g_ild1 eX12_expression_7 ?_
    refine g_if_eq eX12_expression_8 (fun hb => ?_) (fun hb => ?_)
    · exact g_vret rfl eX12_expression_164 ⟨rfl, (Or.inl ⟨e, hR2, he, hd⟩)⟩
    · refine g_ald0 eX12_expression_11 ?_
      refine g_getI (ci := 11) (j := 12) rfl (Nat.le_of_ble_eq_true rfl) (Nat.le_of_ble_eq_true rfl) (Nat.le_of_ble_eq_true rfl) rfl fl_X12_217 eX12_expression_12 ?_
      rw [hd.2.1]
      refine g_if_ne eX12_expression_15 (fun hb2 => ?_) (fun hb2 => ?_)
      · exact g_vret rfl eX12_expression_164 ⟨rfl, (Or.inl ⟨e, hR2, he, hd⟩)⟩
      · exact absurd hb2 (nI_ne0 (by omega) (by omega))
  have loop : ∀ (f : Nat) (u : St) (s : GS) (o : Nat) (C : List (Nat × Nat)) (w : Nat × Nat) (Wt : List WE) (y2 y3 : Option Value), 301 ≤ f + s.1 → nl y2 = true → IV K P V W Nm bs st B u (s, o, C, w, Wt) → R = gb (unitF K (6 - ops Wt) s) (kon K Wt).1 → G xp l xe (rmd (4)) xs xm xa xb xme xc D cy xad xA (YX12_expression.2.1, YX12_expression.1.cls, YX12_expression.2.2.1, YX12_expression.2.2.2) (Pv (exE K P V W Nm bs st B R)) 7 ([some (.ref 31), some (.int 1), y2, y3]) ([]) (u) := by
    intro f
    induction f with
    | zero =>
      intro u s o C w Wt y2 y3 hf hy hI hR2
      have : s.1 ≤ 300 := hI.2.1.1.2.1
      omega
    | succ f ih =>
      intro u s o C w Wt y2 y3 hf hy hI hR2
      have hI9 := hI
      obtain ⟨i1, i2, i3, i4, i5, i6, i7, i8, i9, i10⟩ := hI
      have hSu := SB_fr hS i1
      have ht : s.1 ≤ 300 := i2.1.2.1
      have h1 : 1 ≤ s.1 := i8
      have hql : Wt.length ≤ s.1 := i7
      have hi6 : s.2.1.length + nop Wt ≤ s.1 := i6
      have hi9 : C.length ≤ s.2.1.length := i9
      have ho : o = ops Wt := i4
      have ho6 : o ≤ 6 := i5
      have hv := hSu.1 s.1 ht i2.1.2.2
      have hkl := mkK_lt _ hv.2.2.2.2.1
      -- what no unit begins with
      have plain : K s.1 ≠ 40 ∧ K s.1 ≠ 8 ∧ K s.1 ≠ 9 → G xp l xe (rmd (4)) xs xm xa xb xme xc D cy xad xA (YX12_expression.2.1, YX12_expression.1.cls, YX12_expression.2.2.1, YX12_expression.2.2.2) (Pv (exE K P V W Nm bs st B R)) 49 ([some (.ref 31), some (.int 1), y2, y3]) ([]) (u) := by
        intro hk
        refine g_iconst (v := 0) (by decide) eX12_expression_49 ?_
        refine g_ist2 rfl (Nat.le_of_ble_eq_true rfl) eX12_expression_50 ?_
        refine g_ild2 eX12_expression_51 ?_
        refine g_if_eq eX12_expression_52 (fun hb => ?_) (fun hb => ?_)
        · refine g_ald0 eX12_expression_69 ?_
          refine g_getI (ci := 11) (j := 12) rfl (Nat.le_of_ble_eq_true rfl) (Nat.le_of_ble_eq_true rfl) (Nat.le_of_ble_eq_true rfl) rfl fl_X12_217 eX12_expression_70 ?_
          rw [i2.2.1]
          refine g_if_le eX12_expression_73 (fun hb2 => ?_) (fun hb2 => ?_)
          · refine g_ild2 eX12_expression_77 ?_
            refine g_if_eq eX12_expression_78 (fun hb3 => ?_) (fun hb3 => ?_)
            · refine g_ald0 eX12_expression_137 ?_
              refine g_callVv (ci := 11) (w_unit u hSu i2 (by show C.length < 400; omega)) rfl (Nat.le_of_ble_eq_true rfl) (Nat.le_of_ble_eq_true rfl) rfl cv_X12_323 eX12_expression_138 ⟨Nat.le_of_ble_eq_true rfl, Nat.le_of_ble_eq_true rfl⟩ rfl rfl (Nat.le_of_ble_eq_true rfl) (fun u1 h => ?_)
              have back : ∀ (s1 : GS) (C1 : List (Nat × Nat)) (w1 : Nat × Nat) (R1 : GR), exP K P u R1 (s, o, C1, w1, Wt) u1 → (∀ e, R1 = .inl e → 1 ≤ e.1 ∧ e.1 ≤ 2) → (∀ s2, R1 = .inr s2 → s2.1 = s.1 + 1 ∧ s2.1 ≤ 300 ∧ s2.2 = s1.2) → C1.length ≤ s1.2.1.length → s1.2.1.length ≤ s.2.1.length + 1 → trn P V W Nm bs B (s1, o, C1, w1, Wt) → R = gb R1 (kon K Wt).1 → G xp l xe (rmd (4)) xs xm xa xb xme xc D cy xad xA (YX12_expression.2.1, YX12_expression.1.cls, YX12_expression.2.2.1, YX12_expression.2.2.2) (Pv (exE K P V W Nm bs st B R)) 141 ([some (.ref 31), some (.int 1), some (.int 0), y3]) ([]) (u1) := by
                intro s1 C1 w1 R1 hx he hs2 hC1 hl1 htr hR3
                rcases e1 : R1 with e | s2
                · rw [e1] at hx
                  refine g_ald0 eX12_expression_141 ?_
                  refine g_getI (ci := 11) (j := 12) rfl (Nat.le_of_ble_eq_true rfl) (Nat.le_of_ble_eq_true rfl) (Nat.le_of_ble_eq_true rfl) rfl fl_X12_217 eX12_expression_142 ?_
                  rw [hx.1.2.1]
                  have he2 := he e e1
                  refine g_if_ne eX12_expression_145 (fun hb4 => ?_) (fun hb4 => ?_)
                  · refine g_iconst (v := 0) (by decide) eX12_expression_159 ?_
                    refine g_ist1 rfl (Nat.le_of_ble_eq_true rfl) eX12_expression_160 ?_
                    refine g_goto eX12_expression_161 ?_
                    exact hdead u1 e 0 _ _ (by rw [hR3, e1]; rfl) he2 ⟨i1.trans hx.1.1, hx.1.2⟩
                  · exact absurd hb4 (nI_ne0 (by omega) (by omega))
                · rw [e1] at hx
                  obtain ⟨a1, a2, a3⟩ := hs2 s2 e1
                  have hI1 : IV K P V W Nm bs st B u1 (s2, o, C1, w1, Wt) := by
                    refine ⟨i1.trans hx.1, hx.2, i3, i4, i5, ?_, ?_, ?_, ?_, trn_s htr a3⟩
                    · show s2.2.1.length + nop Wt ≤ s2.1
                      rw [a3]; omega
                    · show Wt.length ≤ s2.1
                      omega
                    · show 1 ≤ s2.1
                      omega
                    · show C1.length ≤ s2.2.1.length
                      rw [a3]; exact hC1
                  refine g_ald0 eX12_expression_141 ?_
                  refine g_getI (ci := 11) (j := 12) rfl (Nat.le_of_ble_eq_true rfl) (Nat.le_of_ble_eq_true rfl) (Nat.le_of_ble_eq_true rfl) rfl fl_X12_217 eX12_expression_142 ?_
                  rw [hx.2.2.1]
                  refine g_if_ne eX12_expression_145 (fun hb4 => ?_) (fun hb4 => ?_)
                  · exact absurd rfl hb4
                  · refine g_ald0 eX12_expression_148 ?_
                    refine g_callVi (ci := 11) (w_isMore st hS u1 hI1 R (by rw [hR3, e1]; rfl)) rfl (Nat.le_of_ble_eq_true rfl) (Nat.le_of_ble_eq_true rfl) rfl cv_X12_326 eX12_expression_149 ⟨Nat.le_of_ble_eq_true rfl, Nat.le_of_ble_eq_true rfl⟩ rfl rfl (Nat.le_of_ble_eq_true rfl) (fun r u2 h2 => ?_)
                    rcases h2 with ⟨e, q1, q2, q3, q4⟩ | ⟨rfl, A, q1, q2, q3⟩ | ⟨rfl, A, q1, q2, q3⟩
                    · rcases q4 with rfl | rfl
                      · refine g_if_eq eX12_expression_152 (fun hb5 => ?_) (fun hb5 => ?_)
                        · refine g_iconst (v := 0) (by decide) eX12_expression_159 ?_
                          refine g_ist1 rfl (Nat.le_of_ble_eq_true rfl) eX12_expression_160 ?_
                          refine g_goto eX12_expression_161 ?_
                          exact hdead u2 e 0 _ _ q1 q2 q3
                        · exact absurd rfl hb5
                      · refine g_if_eq eX12_expression_152 (fun hb5 => ?_) (fun hb5 => ?_)
                        · exact absurd hb5 (by decide)
                        · refine g_iconst (v := 1) (by decide) eX12_expression_155 ?_
                          refine g_goto eX12_expression_156 ?_
                          refine g_ist1 rfl (Nat.le_of_ble_eq_true rfl) eX12_expression_160 ?_
                          refine g_goto eX12_expression_161 ?_
                          exact hdead u2 e 1 _ _ q1 q2 q3
                    · refine g_if_eq eX12_expression_152 (fun hb5 => ?_) (fun hb5 => ?_)
                      · exact absurd hb5 (by decide)
                      · refine g_iconst (v := 1) (by decide) eX12_expression_155 ?_
                        refine g_goto eX12_expression_156 ?_
                        refine g_ist1 rfl (Nat.le_of_ble_eq_true rfl) eX12_expression_160 ?_
                        refine g_goto eX12_expression_161 ?_
                        have q2 : s2.1 ≤ A.1.1 := q2
                        exact ih u2 A.1 A.2.1 A.2.2.1 A.2.2.2.1 A.2.2.2.2 _ _ (by omega) rfl q1 q3
                    · refine g_if_eq eX12_expression_152 (fun hb5 => ?_) (fun hb5 => ?_)
                      · refine g_iconst (v := 0) (by decide) eX12_expression_159 ?_
                        refine g_ist1 rfl (Nat.le_of_ble_eq_true rfl) eX12_expression_160 ?_
                        refine g_goto eX12_expression_161 ?_
                        refine g_ild1 eX12_expression_7 ?_
                        refine g_if_eq eX12_expression_8 (fun hb6 => ?_) (fun hb6 => ?_)
                        · exact g_vret rfl eX12_expression_164 ⟨rfl, (Or.inr ⟨A, q3, q1, q2⟩)⟩
                        · exact absurd rfl hb6
                      · exact absurd rfl hb5
              unfold upF at h
              by_cases k2 : K s.1 = 2
              · rw [if_pos k2] at h
                refine back (gvF 5 s.1 (wrF 2 s.1 s)) _ _ _ h (fun e => psF_er) (fun s2 e => psF_ok e) ?_ ?_ (trn_ev (trn_wr i10 2 s.1 o Wt) 5 s.1) (by rw [hR2, unitF_v k2])
                · show (C ++ cdT Nm V W bs (2, s.1)).length ≤ (s.2.1 ++ [_]).length
                  rw [List.length_append, List.length_append, List.length_singleton]
                  have := cdT_len (Nm := Nm) (V := V) (W := W) (bs := bs) (2, s.1)
                  omega
                · show (s.2.1 ++ [_]).length ≤ _
                  rw [List.length_append, List.length_singleton]; omega
              · rw [if_neg k2] at h
                by_cases k3 : K s.1 = 3
                · rw [if_pos k3] at h
                  refine back (wrF 3 s.1 s) _ _ _ h (fun e => psF_er) (fun s2 e => psF_ok e) ?_ ?_ (trn_wr i10 3 s.1 o Wt) (by rw [hR2, unitF_i k3])
                  · show (C ++ cdT Nm V W bs (3, s.1)).length ≤ (s.2.1 ++ [_]).length
                    rw [List.length_append, List.length_append, List.length_singleton]
                    have := cdT_len (Nm := Nm) (V := V) (W := W) (bs := bs) (3, s.1)
                    omega
                  · show (s.2.1 ++ [_]).length ≤ _
                    rw [List.length_append, List.length_singleton]; omega
                · rw [if_neg k3] at h
                  have eR : R = .inl (1, s.1) := by rw [hR2, unitF_n (by omega)]; rfl
                  refine g_ald0 eX12_expression_141 ?_
                  refine g_getI (ci := 11) (j := 12) rfl (Nat.le_of_ble_eq_true rfl) (Nat.le_of_ble_eq_true rfl) (Nat.le_of_ble_eq_true rfl) rfl fl_X12_217 eX12_expression_142 ?_
                  rw [h.2.1]
                  refine g_if_ne eX12_expression_145 (fun hb4 => ?_) (fun hb4 => ?_)
                  · refine g_iconst (v := 0) (by decide) eX12_expression_159 ?_
                    refine g_ist1 rfl (Nat.le_of_ble_eq_true rfl) eX12_expression_160 ?_
                    refine g_goto eX12_expression_161 ?_
                    exact hdead u1 (1, s.1) 0 _ _ eR ⟨by show 1 ≤ 1; decide, by show 1 ≤ 2; decide⟩ ⟨i1.trans h.1, h.2⟩
                  · exact absurd hb4 (show ¬ nI 1 = 0 by decide)
            · exact absurd rfl hb3
          · exact absurd (show (0 : Int32) ≤ 0 by decide) hb2
        · exact absurd rfl hb
      -- what opens
      have opens : K s.1 = 40 ∨ K s.1 = 8 ∨ K s.1 = 9 → G xp l xe (rmd (4)) xs xm xa xb xme xc D cy xad xA (YX12_expression.2.1, YX12_expression.1.cls, YX12_expression.2.2.1, YX12_expression.2.2.2) (Pv (exE K P V W Nm bs st B R)) 45 ([some (.ref 31), some (.int 1), y2, y3]) ([]) (u) := by
        intro hk
        refine g_iconst (v := 1) (by decide) eX12_expression_45 ?_
        refine g_goto eX12_expression_46 ?_
        refine g_ist2 rfl (Nat.le_of_ble_eq_true rfl) eX12_expression_50 ?_
        refine g_ild2 eX12_expression_51 ?_
        refine g_if_eq eX12_expression_52 (fun hb => ?_) (fun hb => ?_)
        · exact absurd hb (by decide)
        · refine g_ald0 eX12_expression_55 ?_
          refine g_getI (ci := 11) (j := 11) rfl (Nat.le_of_ble_eq_true rfl) (Nat.le_of_ble_eq_true rfl) (Nat.le_of_ble_eq_true rfl) rfl fl_X12_247 eX12_expression_56 ?_
          rw [i2.2.2.1]
          refine g_bipush (v := 6) (by decide) eX12_expression_59 ?_
          by_cases h6 : o = 6
          · have eR : R = .inl (2, s.1) := by
              have e0 : 6 - ops Wt = 0 := by omega
              rw [hR2, e0]
              rcases hk with k | k | k
              · rw [unitF_p k, if_pos rfl]; rfl
              · rw [unitF_c k, if_pos rfl]; rfl
              · rw [unitF_a k, if_pos rfl]; rfl
            refine g_icmp_ne eX12_expression_61 (fun hb2 => ?_) (fun hb2 => ?_)
            · exact absurd (by show nI o = 6; rw [h6]; rfl) hb2
            · refine g_ald0 eX12_expression_64 ?_
              refine g_iconst (v := 2) (by decide) eX12_expression_65 ?_
              refine g_callVv (ci := 11) (w_fail u hSu.1 i2 2) rfl (Nat.le_of_ble_eq_true rfl) (Nat.le_of_ble_eq_true rfl) rfl cv_X12_232 eX12_expression_66 ⟨Nat.le_of_ble_eq_true rfl, Nat.le_of_ble_eq_true rfl⟩ rfl rfl (Nat.le_of_ble_eq_true rfl) (fun u1 h => ?_)
              refine g_ald0 eX12_expression_69 ?_
              refine g_getI (ci := 11) (j := 12) rfl (Nat.le_of_ble_eq_true rfl) (Nat.le_of_ble_eq_true rfl) (Nat.le_of_ble_eq_true rfl) rfl fl_X12_217 eX12_expression_70 ?_
              rw [h.1.2.1]
              refine g_if_le eX12_expression_73 (fun hb3 => ?_) (fun hb3 => ?_)
              · exact absurd hb3 (show ¬ nI 2 ≤ 0 by decide)
              · exact g_vret rfl eX12_expression_76 ⟨rfl, (Or.inl ⟨(2, s.1), eR, ⟨by show 1 ≤ 2; decide, by show 2 ≤ 2; decide⟩, i1.trans h.1.1, h.1.2⟩)⟩
          · refine g_icmp_ne eX12_expression_61 (fun hb2 => ?_) (fun hb2 => ?_)
            · have hd0 : 6 - ops Wt ≠ 0 := by omega
              have hd1 : 6 - ops Wt - 1 = 6 - (1 + ops Wt) := by omega
              have hop := ex_op i2 (o + 1)
              refine g_ald0 eX12_expression_69 ?_
              refine g_getI (ci := 11) (j := 12) rfl (Nat.le_of_ble_eq_true rfl) (Nat.le_of_ble_eq_true rfl) (Nat.le_of_ble_eq_true rfl) rfl fl_X12_217 eX12_expression_70 ?_
              rw [i2.2.1]
              refine g_if_le eX12_expression_73 (fun hb3 => ?_) (fun hb3 => ?_)
              · refine g_ild2 eX12_expression_77 ?_
                refine g_if_eq eX12_expression_78 (fun hb4 => ?_) (fun hb4 => ?_)
                · exact absurd hb4 (by decide)
                · refine g_ald0 eX12_expression_81 ?_
                  refine g_getR (ci := 11) (j := 4) rfl (Nat.le_of_ble_eq_true rfl) (Nat.le_of_ble_eq_true rfl) (Nat.le_of_ble_eq_true rfl) rfl rfl fl_X12_16 eX12_expression_82 ?_
                  refine g_ald0 eX12_expression_85 ?_
                  refine g_getI (ci := 11) (j := 10) rfl (Nat.le_of_ble_eq_true rfl) (Nat.le_of_ble_eq_true rfl) (Nat.le_of_ble_eq_true rfl) rfl fl_X12_220 eX12_expression_86 ?_
                  rw [i2.1.1]
                  refine g_iald rfl (Nat.le_of_ble_eq_true rfl) (vp_in_nI (n := s.1) (N := 303) (by omega) (by decide)) eX12_expression_89 ?_
                  rw [nI_clamp (by show s.1 < _; omega), hv.1]
                  refine g_ist3 rfl (Nat.le_of_ble_eq_true rfl) eX12_expression_90 ?_
                  refine g_ald0 eX12_expression_91 ?_
                  refine g_dup rfl eX12_expression_92 ?_
                  refine g_getI (ci := 11) (j := 11) rfl (Nat.le_of_ble_eq_true rfl) (Nat.le_of_ble_eq_true rfl) (Nat.le_of_ble_eq_true rfl) rfl fl_X12_247 eX12_expression_93 ?_
                  rw [show u.1 31 11 = nI o from i2.2.2.1]
                  refine g_iconst (v := 1) (by decide) eX12_expression_96 ?_
                  refine g_iadd eX12_expression_97 ?_
                  rw [show nI o + 1 = nI (o + 1) from nI_1 o]
                  refine g_putI (ci := 11) (j := 11) rfl rfl (Nat.le_of_ble_eq_true rfl) (Nat.le_of_ble_eq_true rfl) (Nat.le_of_ble_eq_true rfl) rfl fl_X12_247 eX12_expression_98 ?_
                  refine g_ald0 eX12_expression_101 ?_
                  have f0 : exFr u (sI u 31 11 (nI (o + 1))) := exFr_f _ _ (by omega)
                  have hS1 := SB_fr hSu f0
                  refine g_callVv (ci := 11) (w_goesOn _ hS1.1 hop (by show K s.1 ≠ 0 ∧ K s.1 ≠ 1; omega)) rfl (Nat.le_of_ble_eq_true rfl) (Nat.le_of_ble_eq_true rfl) rfl cv_X12_238 eX12_expression_102 ⟨Nat.le_of_ble_eq_true rfl, Nat.le_of_ble_eq_true rfl⟩ rfl rfl (Nat.le_of_ble_eq_true rfl) (fun u1 h => ?_)
                  -- dead: whatever waits now
                  have dead : ∀ (u9 : St) (e : Nat × Nat) (z : Int32), R = .inl e → 1 ≤ e.1 ∧ e.1 ≤ 2 → exD P st u9 e → u9.1 31 49 = nI Wt.length → G xp l xe (rmd (4)) xs xm xa xb xme xc D cy xad xA (YX12_expression.2.1, YX12_expression.1.cls, YX12_expression.2.2.1, YX12_expression.2.2.2) (Pv (exE K P V W Nm bs st B R)) 131 ([some (.ref 31), some (.int 1), some (.int 1), some (.int (nI (mkK (K s.1))))]) ([.int z, .int (nI (mkK (K s.1))), .ref 31]) (u9) := by
                    intro u9 e z q1 q2 q3 q4
                    refine g_callVv (ci := 11) (w_waitsForD u9 q4 (by omega) _ z) rfl (Nat.le_of_ble_eq_true rfl) (Nat.le_of_ble_eq_true rfl) rfl cv_X12_320 eX12_expression_131 ⟨Nat.le_of_ble_eq_true rfl, Nat.le_of_ble_eq_true rfl⟩ rfl rfl (Nat.le_of_ble_eq_true rfl) (fun u8 h8 => ?_)
                    refine g_goto eX12_expression_134 ?_
                    refine g_goto eX12_expression_161 ?_
                    exact hdead u8 e 1 _ _ q1 q2 ⟨q3.1.trans h8.1, by rw [h8.2.1]; exact q3.2.1, by rw [h8.2.2]; exact q3.2.2⟩
                  have fine : ∀ (u9 : St) (s9 : GS) (w9 : Nat × Nat) (v c : Nat), s9.1 ≤ 300 → s.1 < s9.1 → s9.2.1 = s.2.1 → exFr st u9 → exOK K u9 (s9, o + 1, C, w9, Wt) → trn P V W Nm bs B (s9, o + 1, C, w9, Wt) → wfW (tbF Nm W) ((mkK (K s.1), v, c) :: Wt) → R = gb (unitF K (6 - (1 + ops Wt)) s9) (kon K ((mkK (K s.1), v, c) :: Wt)).1 → G xp l xe (rmd (4)) xs xm xa xb xme xc D cy xad xA (YX12_expression.2.1, YX12_expression.1.cls, YX12_expression.2.2.1, YX12_expression.2.2.2) (Pv (exE K P V W Nm bs st B R)) 131 ([some (.ref 31), some (.int 1), some (.int 1), some (.int (nI (mkK (K s.1))))]) ([.int (nI v), .int (nI (mkK (K s.1))), .ref 31]) (u9) := by
                    intro u9 s9 w9 v c q0 q1 q2 q3 q4 q5 q6 q7
                    refine g_callVv (ci := 11) (w_waitsFor u9 q4 (by show Wt.length < 320; omega) (mkK (K s.1)) v c _ _ rfl rfl) rfl (Nat.le_of_ble_eq_true rfl) (Nat.le_of_ble_eq_true rfl) rfl cv_X12_320 eX12_expression_131 ⟨Nat.le_of_ble_eq_true rfl, Nat.le_of_ble_eq_true rfl⟩ rfl rfl (Nat.le_of_ble_eq_true rfl) (fun u8 h8 => ?_)
                    refine g_goto eX12_expression_134 ?_
                    refine g_goto eX12_expression_161 ?_
                    have hkk : mkK (K s.1) = 6 ∨ mkK (K s.1) = 24 ∨ mkK (K s.1) = 25 := by
                      rcases hk with k | k | k
                      · rw [k]; exact Or.inl rfl
                      · rw [k]; exact Or.inr (Or.inl rfl)
                      · rw [k]; exact Or.inr (Or.inr rfl)
                    refine ih u8 s9 (o + 1) C w9 ((mkK (K s.1), v, c) :: Wt) _ _ (by omega) rfl ⟨q3.trans h8.1, h8.2, q6, ?_, ?_, ?_, ?_, ?_, ?_, trn_s q5 rfl⟩ ?_
                    · show o + 1 = ops ((mkK (K s.1), v, c) :: Wt)
                      rw [ops, if_pos hkk]; omega
                    · show o + 1 ≤ 6
                      omega
                    · show s9.2.1.length + nop ((mkK (K s.1), v, c) :: Wt) ≤ s9.1
                      rw [nop, q2]
                      split <;> omega
                    · show ((mkK (K s.1), v, c) :: Wt).length ≤ s9.1
                      rw [List.length_cons]; omega
                    · show 1 ≤ s9.1
                      omega
                    · show C.length ≤ s9.2.1.length
                      rw [q2]; exact hi9
                    · rw [ops, if_pos hkk]; exact q7
                  rcases e1 : psF s with e | s1
                  · rw [e1] at h
                    have he := psF_er e1
                    have eR : R = .inl e := by
                      rw [hR2]
                      rcases hk with k | k | k
                      · rw [unitF_p k, if_neg hd0, e1]; rfl
                      · rw [unitF_c k, if_neg hd0, e1]; rfl
                      · rw [unitF_a k, if_neg hd0, e1]; rfl
                    have hdd : exD P st u1 e := ⟨(i1.trans f0).trans h.1.1, h.1.2⟩
                    have hw9 : u1.1 31 49 = nI Wt.length := by rw [h.2]; exact hop.2.2.2.2.2.1
                    refine g_ald0 eX12_expression_105 ?_
                    refine g_ild3 eX12_expression_106 ?_
                    refine g_ild3 eX12_expression_107 ?_
                    refine g_bipush (v := 24) (by decide) eX12_expression_108 ?_
                    refine g_icmp_ne eX12_expression_110 (fun hb5 => ?_) (fun hb5 => ?_)
                    · refine g_ild3 eX12_expression_117 ?_
                      refine g_bipush (v := 25) (by decide) eX12_expression_118 ?_
                      refine g_icmp_ne eX12_expression_120 (fun hb6 => ?_) (fun hb6 => ?_)
                      · refine g_iconst (v := 0) (by decide) eX12_expression_130 ?_
                        exact dead u1 e _ eR he hdd hw9
                      · refine g_ald0 eX12_expression_123 ?_
                        refine g_callVi (ci := 11) (w_tableNamedD (t := 0) u1 hdd.2.1 he.1 (by omega)) rfl (Nat.le_of_ble_eq_true rfl) (Nat.le_of_ble_eq_true rfl) rfl cv_X12_317 eX12_expression_124 ⟨Nat.le_of_ble_eq_true rfl, Nat.le_of_ble_eq_true rfl⟩ rfl rfl (Nat.le_of_ble_eq_true rfl) (fun r u1 h8 => ?_)
                        obtain ⟨rfl, rfl⟩ := h8
                        refine g_goto eX12_expression_127 ?_
                        exact dead u1 e _ eR he hdd hw9
                    · refine g_iconst (v := 3) (by decide) eX12_expression_113 ?_
                      refine g_goto eX12_expression_114 ?_
                      exact dead u1 e _ eR he hdd hw9
                  · rw [e1] at h
                    have a1 := psF_ok e1
                    have h2 : exOK K u1 (s1, o + 1, C, w, Wt) := h.2
                    have f1 : exFr st u1 := (i1.trans f0).trans h.1
                    refine g_ald0 eX12_expression_105 ?_
                    refine g_ild3 eX12_expression_106 ?_
                    refine g_ild3 eX12_expression_107 ?_
                    refine g_bipush (v := 24) (by decide) eX12_expression_108 ?_
                    rcases hk with k | k | k
                    · have hm : mkK (K s.1) = 6 := by rw [k]; rfl
                      refine g_icmp_ne eX12_expression_110 (fun hb5 => ?_) (fun hb5 => ?_)
                      · refine g_ild3 eX12_expression_117 ?_
                        refine g_bipush (v := 25) (by decide) eX12_expression_118 ?_
                        refine g_icmp_ne eX12_expression_120 (fun hb6 => ?_) (fun hb6 => ?_)
                        · refine g_iconst (v := 0) (by decide) eX12_expression_130 ?_
                          refine fine u1 s1 w 0 0 a1.2.1 (by omega) (by rw [a1.2.2]) f1 h2 (trn_s i10 a1.2.2) ⟨i3, Or.inl hm⟩ ?_
                          rw [hR2, unitF_p k, if_neg hd0, e1, hd1, kon, if_pos hm]
                          show gb (gb (sumF K (prodF K (unitF K (6 - (1 + ops Wt)))) s1) _) _ = _
                          rw [gb_assoc]
                          unfold sumF prodF
                          rw [gb_assoc, gb_assoc, ops, if_pos (Or.inl hm)]
                          refine gb_congr (fun x1 _ => gb_congr (fun x2 _ => gb_congr (fun x3 _ => ?_)))
                          rw [gb_assoc]
                          rfl
                        · rw [hm] at hb6
                          exact absurd hb6 (by decide)
                      · rw [hm] at hb5
                        exact absurd hb5 (by decide)
                    · have hm : mkK (K s.1) = 24 := by rw [k]; rfl
                      refine g_icmp_ne eX12_expression_110 (fun hb5 => ?_) (fun hb5 => ?_)
                      · rw [hm] at hb5
                        exact absurd rfl hb5
                      · refine g_iconst (v := 3) (by decide) eX12_expression_113 ?_
                        refine g_goto eX12_expression_114 ?_
                        refine fine u1 s1 w 3 s.1 a1.2.1 (by omega) (by rw [a1.2.2]) f1 h2 (trn_s i10 a1.2.2) ⟨i3, Or.inr (Or.inl ⟨hm, by show 1 ≤ 3; decide, by show 3 ≤ 3; decide⟩)⟩ ?_
                        rw [hR2, unitF_c k, if_neg hd0, e1, hd1, kon, if_neg (by show ¬ mkK (K s.1) = 6; omega), if_pos hm, ops, if_pos (Or.inr (Or.inl hm))]
                        show gb (gb (unitF K (6 - (1 + ops Wt)) s1) _) _ = gb _ (chk _ 2 _)
                        rw [gb_assoc]
                        refine gb_congr (fun x1 _ => ?_)
                        rw [gb_assoc]
                        refine gb_congr (fun x2 _ => ?_)
                        rw [gb_assoc]
                        rfl
                    · have hm : mkK (K s.1) = 25 := by rw [k]; rfl
                      refine g_icmp_ne eX12_expression_110 (fun hb5 => ?_) (fun hb5 => ?_)
                      · refine g_ild3 eX12_expression_117 ?_
                        refine g_bipush (v := 25) (by decide) eX12_expression_118 ?_
                        refine g_icmp_ne eX12_expression_120 (fun hb6 => ?_) (fun hb6 => ?_)
                        · rw [hm] at hb6
                          exact absurd rfl hb6
                        · refine g_ald0 eX12_expression_123 ?_
                          refine g_callVi (ci := 11) (w_tableNamed u1 (SB_fr hS f1) h2) rfl (Nat.le_of_ble_eq_true rfl) (Nat.le_of_ble_eq_true rfl) rfl cv_X12_317 eX12_expression_124 ⟨Nat.le_of_ble_eq_true rfl, Nat.le_of_ble_eq_true rfl⟩ rfl rfl (Nat.le_of_ble_eq_true rfl) (fun r u2 h8 => ?_)
                          unfold tnF at h8
                          dsimp only at h8
                          rcases e2 : tkF K 2 (gvF 4 s1.1 s1) with e | s2
                          · rw [e2] at h8
                            obtain ⟨q1, rfl, q3⟩ := h8
                            have he := tkF_er e2
                            refine g_goto eX12_expression_127 ?_
                            refine dead u2 e 0 ?_ he ⟨f1.trans q1.1, q1.2⟩ (by rw [q3]; exact h2.2.2.2.2.2.1)
                            rw [hR2, unitF_a k, if_neg hd0, e1]
                            show gb (gb (tkF K 2 (gvF 4 s1.1 s1)) _) _ = _
                            rw [e2]
                            rfl
                          · rw [e2] at h8
                            obtain ⟨q1, rfl, q3⟩ := h8
                            have a2 := psF_ok (tkF_ok e2).2
                            have a3 : s2.1 = s1.1 + 1 := a2.1
                            have a4 : s2.2 = (gvF 4 s1.1 s1).2 := a2.2.2
                            refine g_goto eX12_expression_127 ?_
                            refine fine u2 s2 _ (tbF Nm W s1.1) s.1 a2.2.1 (by omega) ?_ (f1.trans q1) q3 ?_ ⟨i3, Or.inr (Or.inr (Or.inl ⟨hm, by show tbF Nm W s1.1 = tbF Nm W (s.1 + 1); rw [a1.1]⟩))⟩ ?_
                            · rw [a4]
                              show s1.2.1 = _
                              rw [a1.2.2]
                            · exact trn_s (trn_ev (trn_s (s2 := s1) (o2 := o + 1) (Wt2 := Wt) i10 a1.2.2) 4 s1.1) a4
                            · rw [hR2, unitF_a k, if_neg hd0, e1, hd1, kon, if_neg (by show ¬ mkK (K s.1) = 6; omega), if_neg (by show ¬ mkK (K s.1) = 24; omega), if_pos hm]
                              show gb (gb (tkF K 2 (gvF 4 s1.1 s1)) _) _ = _
                              rw [e2]
                              show gb (gb (unitF K (6 - (1 + ops Wt)) s2) _) _ = _
                              rw [gb_assoc]
                              rfl
                      · rw [hm] at hb5
                        exact absurd hb5 (by decide)
              · exact absurd (show (0 : Int32) ≤ 0 by decide) hb3
            · exact absurd ((nI_eq (a := o) (b := 6) (by omega) (by omega)).mp hb2) h6
      refine g_ild1 eX12_expression_7 ?_
      refine g_if_eq eX12_expression_8 (fun hb => ?_) (fun hb => ?_)
      · exact absurd hb (by decide)
      · refine g_ald0 eX12_expression_11 ?_
        refine g_getI (ci := 11) (j := 12) rfl (Nat.le_of_ble_eq_true rfl) (Nat.le_of_ble_eq_true rfl) (Nat.le_of_ble_eq_true rfl) rfl fl_X12_217 eX12_expression_12 ?_
        rw [i2.2.1]
        refine g_if_ne eX12_expression_15 (fun hb2 => ?_) (fun hb2 => ?_)
        · exact absurd rfl hb2
        · refine g_ald0 eX12_expression_18 ?_
          refine g_bipush (v := 6) (by decide) eX12_expression_19 ?_
          refine g_callVi (ci := 11) (w_is u hSu.1 i2 6 (by decide)) rfl (Nat.le_of_ble_eq_true rfl) (Nat.le_of_ble_eq_true rfl) rfl cv_X12_235 eX12_expression_21 ⟨Nat.le_of_ble_eq_true rfl, Nat.le_of_ble_eq_true rfl⟩ rfl rfl (Nat.le_of_ble_eq_true rfl) (fun r u h9 => ?_)
          obtain ⟨rfl, rfl⟩ := h9
          refine g_if_ne eX12_expression_24 (fun hb3 => ?_) (fun hb3 => ?_)
          · rw [b2_ne0] at hb3
            exact opens (Or.inl ((mkK_is hv.2.2.2.2.1 (b := 40) (k := 6) (by decide) rfl).mp hb3))
          · rw [b2_eq0] at hb3
            have n40 : ¬ K s.1 = 40 := fun z => hb3 ((mkK_is hv.2.2.2.2.1 (b := 40) (k := 6) (by decide) rfl).mpr z)
            refine g_ald0 eX12_expression_27 ?_
            refine g_bipush (v := 24) (by decide) eX12_expression_28 ?_
            refine g_callVi (ci := 11) (w_is u hSu.1 i2 24 (by decide)) rfl (Nat.le_of_ble_eq_true rfl) (Nat.le_of_ble_eq_true rfl) rfl cv_X12_235 eX12_expression_30 ⟨Nat.le_of_ble_eq_true rfl, Nat.le_of_ble_eq_true rfl⟩ rfl rfl (Nat.le_of_ble_eq_true rfl) (fun r u h9 => ?_)
            obtain ⟨rfl, rfl⟩ := h9
            refine g_if_ne eX12_expression_33 (fun hb4 => ?_) (fun hb4 => ?_)
            · rw [b2_ne0] at hb4
              exact opens (Or.inr (Or.inl ((mkK_is hv.2.2.2.2.1 (b := 8) (k := 24) (by decide) rfl).mp hb4)))
            · rw [b2_eq0] at hb4
              have n8 : ¬ K s.1 = 8 := fun z => hb4 ((mkK_is hv.2.2.2.2.1 (b := 8) (k := 24) (by decide) rfl).mpr z)
              refine g_ald0 eX12_expression_36 ?_
              refine g_bipush (v := 25) (by decide) eX12_expression_37 ?_
              refine g_callVi (ci := 11) (w_is u hSu.1 i2 25 (by decide)) rfl (Nat.le_of_ble_eq_true rfl) (Nat.le_of_ble_eq_true rfl) rfl cv_X12_235 eX12_expression_39 ⟨Nat.le_of_ble_eq_true rfl, Nat.le_of_ble_eq_true rfl⟩ rfl rfl (Nat.le_of_ble_eq_true rfl) (fun r u h9 => ?_)
              obtain ⟨rfl, rfl⟩ := h9
              refine g_if_eq eX12_expression_42 (fun hb5 => ?_) (fun hb5 => ?_)
              · rw [b2_eq0] at hb5
                have n9 : ¬ K s.1 = 9 := fun z => hb5 ((mkK_is hv.2.2.2.2.1 (b := 9) (k := 25) (by decide) rfl).mpr z)
                exact plain ⟨n40, n8, n9⟩
              · rw [b2_ne0] at hb5
                exact opens (Or.inr (Or.inr ((mkK_is hv.2.2.2.2.1 (b := 9) (k := 25) (by decide) rfl).mp hb5)))
  refine g_ald0 eX12_expression_0 ?_
  refine g_iconst (v := 0) (by decide) eX12_expression_1 ?_
  refine g_putI (ci := 11) (j := 49) rfl rfl (Nat.le_of_ble_eq_true rfl) (Nat.le_of_ble_eq_true rfl) (Nat.le_of_ble_eq_true rfl) rfl fl_X12_314 eX12_expression_2 ?_
  refine g_iconst (v := 1) (by decide) eX12_expression_5 ?_
  refine g_ist1 rfl (Nat.le_of_ble_eq_true rfl) eX12_expression_6 ?_
  refine loop 300 _ B.1 0 B.2.2.1 B.2.2.2.1 [] none none (by omega) rfl ⟨exFr_f _ _ (by omega), ?_, trivial, rfl, Nat.zero_le _, ?_, Nat.zero_le _, hB1, hB3, [], [], by simp, by simp, by simp, rfl⟩ (by rw [← hR, kon_expr]; rfl)
  · have h9 := ex_clear hB
    rw [hB0] at h9
    exact h9
  · show B.1.2.1.length + 0 ≤ B.1.1
    omega
end EXPS
