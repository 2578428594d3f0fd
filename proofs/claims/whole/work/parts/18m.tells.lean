/-! THE MODEL PARSES: a let -/
section TELL
variable {l : Launch} {D : va_G} {cy : Nat → ClassId} {K P V W : Nat → Nat} {bs pg : Nat}
theorem w_tellLet (st : St) {s : GS} {gs : List GP} {C : List (Nat × Nat)} {TL : List TE} (hT : TK K P V W bs pg st s gs C TL) (hk : K s.1 = 6) : Mv l D cy 5 YX12_tellLet [.ref 31] st (tuP K P V W bs pg st (pmF K P W bs s.2.2) (n7 gs) (gb (psF s) (fun s1 => gb (tkF K 2 (gvF 2 s1.1 s1)) (fun s2 => gb (tkF K 61 s2) (fun s3 => gb (exprF K s3) (fun s4 => gb (tkF K 59 s4) (fun s5 => .inr (gvF 3 (s.1 + 1) (wrF 6 s.1 s5)))))))) ((pmF K P W bs s.2.2).2.1, (pmF K P W bs s.2.2).2.2.2.1.length, n7 gs)) := by
  obtain ⟨t1, ⟨Wt, t2⟩, t3, t4, t5, t6, t7⟩ := hT
  have hS : SB K P V W (nmL W (pmF K P W bs s.2.2).1) bs st := ⟨t1.1, t3, t1.2.1⟩
  have h300 : s.1 ≤ 300 := t2.1.2.1
  have hlen : 3 * (pmF K P W bs s.2.2).1.length ≤ s.1 := t7.2.1.2.2.2
  have hb1 : s.2.1.length ≤ s.1 := t7.2.1.1
  have hb2 : C.length ≤ s.2.1.length := t7.2.1.2.1
  have hb3 : 4 * TL.length ≤ s.1 + n7 gs := t7.2.1.2.2.1
  have hb7 : n7 gs ≤ 4 := t7.2.2.1.2.2.2.2.1
  have hlt6 : (pmF K P W bs s.2.2).2.2.1 ≤ TL.length := by rw [t7.2.2.1.1]; exact t7.2.2.1.2.1
  generalize hR : gb (psF s) (fun s1 => gb (tkF K 2 (gvF 2 s1.1 s1)) (fun s2 => gb (tkF K 61 s2) (fun s3 => gb (exprF K s3) (fun s4 => gb (tkF K 59 s4) (fun s5 => .inr (gvF 3 (s.1 + 1) (wrF 6 s.1 s5))))))) = R
  refine M.ofG [some (.ref 31), none, none] (by decide) (Nat.le_of_ble_eq_true rfl) rfl ?_
  intro xp xe xs xm xa xb xme xc xad xA
  have hfin : ∀ (u : St) (e : Nat × Nat) (z : Option Value), R = .inl e → 1 ≤ e.1 ∧ e.1 ≤ 2 → dD P st u e → G xp l xe (rmd (5)) xs xm xa xb xme xc D cy xad xA (YX12_tellLet.2.1, YX12_tellLet.1.cls, YX12_tellLet.2.2.1, YX12_tellLet.2.2.2) (Pv (tuP K P V W bs pg st (pmF K P W bs s.2.2) (n7 gs) R ((pmF K P W bs s.2.2).2.1, (pmF K P W bs s.2.2).2.2.2.1.length, n7 gs))) 42 ([some (.ref 31), some (.int (nI s.1)), z]) ([]) (u) := by
    intro u e z hR2 he hd
    refine g_ald0 eX12_tellLet_42 ?_
    refine g_getI (ci := 11) (j := 12) rfl (Nat.le_of_ble_eq_true rfl) (Nat.le_of_ble_eq_true rfl) (Nat.le_of_ble_eq_true rfl) rfl fl_X12_217 eX12_tellLet_43 ?_
    rw [hd.2.1]
    refine g_if_le eX12_tellLet_46 (fun hb => ?_) (fun hb => ?_)
    · exact absurd hb (nI_nle (by omega) (by omega))
    · exact g_vret rfl eX12_tellLet_49 ⟨rfl, (tu_dead hR2 he hd)⟩
  have hdead : ∀ (u : St) (e : Nat × Nat) (z : Option Value), R = .inl e → 1 ≤ e.1 ∧ e.1 ≤ 2 → dD P st u e → G xp l xe (rmd (5)) xs xm xa xb xme xc D cy xad xA (YX12_tellLet.2.1, YX12_tellLet.1.cls, YX12_tellLet.2.2.1, YX12_tellLet.2.2.2) (Pv (tuP K P V W bs pg st (pmF K P W bs s.2.2) (n7 gs) R ((pmF K P W bs s.2.2).2.1, (pmF K P W bs s.2.2).2.2.2.1.length, n7 gs))) 37 ([some (.ref 31), some (.int (nI s.1)), z]) ([]) (u) := by
    intro u e z hR2 he hd
    refine g_ald0 eX12_tellLet_37 ?_
    refine g_iconst (v := 4) (by decide) eX12_tellLet_38 ?_
    refine g_callVv (ci := 11) (w_mustD u hd.2.1 he.1 (by omega) 4) rfl (Nat.le_of_ble_eq_true rfl) (Nat.le_of_ble_eq_true rfl) rfl cv_X12_289 eX12_tellLet_39 ⟨Nat.le_of_ble_eq_true rfl, Nat.le_of_ble_eq_true rfl⟩ rfl rfl (Nat.le_of_ble_eq_true rfl) (fun u h => ?_)
    subst h
    exact hfin u e z hR2 he hd
  have hti : vp_in (nI TL.length) 100 := vp_in_nI (by omega) (by decide)
  have htc : (nI TL.length).toNatClampNeg = TL.length := nI_clamp (by omega)
  have hd20 : ∀ (u : St) (e : Nat × Nat) (z : Option Value), R = .inl e → 1 ≤ e.1 ∧ e.1 ≤ 2 → exD P st u e → G xp l xe (rmd (5)) xs xm xa xb xme xc D cy xad xA (YX12_tellLet.2.1, YX12_tellLet.1.cls, YX12_tellLet.2.2.1, YX12_tellLet.2.2.2) (Pv (tuP K P V W bs pg st (pmF K P W bs s.2.2) (n7 gs) R ((pmF K P W bs s.2.2).2.1, (pmF K P W bs s.2.2).2.2.2.1.length, n7 gs))) 20 ([some (.ref 31), some (.int (nI s.1)), z]) ([]) (u) := by
    intro u e z hR2 he hd
    have te1 := te_ex t5 hd.1
    refine g_ald0 eX12_tellLet_20 ?_
    refine g_getR (ci := 11) (j := 39) rfl (Nat.le_of_ble_eq_true rfl) (Nat.le_of_ble_eq_true rfl) (Nat.le_of_ble_eq_true rfl) rfl rfl fl_X12_76 eX12_tellLet_21 ?_
    refine g_ald0 eX12_tellLet_24 ?_
    refine g_getI (ci := 11) (j := 36) rfl (Nat.le_of_ble_eq_true rfl) (Nat.le_of_ble_eq_true rfl) (Nat.le_of_ble_eq_true rfl) rfl fl_X12_259 eX12_tellLet_25 ?_
    rw [te1.1]
    refine g_ald0 eX12_tellLet_28 ?_
    refine g_getI (ci := 11) (j := 44) rfl (Nat.le_of_ble_eq_true rfl) (Nat.le_of_ble_eq_true rfl) (Nat.le_of_ble_eq_true rfl) rfl fl_X12_268 eX12_tellLet_29 ?_
    refine g_iast rfl (Nat.le_of_ble_eq_true rfl) hti eX12_tellLet_32 ?_
    rw [htc]
    have hd1 : dD P st (sI u 52 TL.length (u.1 31 44)) e := ⟨(tl_ex hd.1).trans (tl_r _ _ (by omega)), hd.2.1, hd.2.2⟩
    refine g_ald0 eX12_tellLet_33 ?_
    refine g_callVv (ci := 11) (w_expressionD _ hd1.2.1 he.1 (by omega)) rfl (Nat.le_of_ble_eq_true rfl) (Nat.le_of_ble_eq_true rfl) rfl cv_X12_308 eX12_tellLet_34 ⟨Nat.le_of_ble_eq_true rfl, Nat.le_of_ble_eq_true rfl⟩ rfl rfl (Nat.le_of_ble_eq_true rfl) (fun u2 h2 => ?_)
    subst h2
    refine hdead _ e _ hR2 he ⟨hd1.1.trans (tl_ex (exFr_f _ _ (by omega))), ?_, ?_⟩
    · rw [sI_1, if_neg (by omega)]; exact hd1.2.1
    · rw [sI_1, if_neg (by omega)]; exact hd1.2.2
  refine g_ald0 eX12_tellLet_0 ?_
  refine g_getI (ci := 11) (j := 10) rfl (Nat.le_of_ble_eq_true rfl) (Nat.le_of_ble_eq_true rfl) (Nat.le_of_ble_eq_true rfl) rfl fl_X12_220 eX12_tellLet_1 ?_
  rw [show st.1 31 10 = nI s.1 from t2.1.1]
  refine g_ist1 rfl (Nat.le_of_ble_eq_true rfl) eX12_tellLet_4 ?_
  refine g_ald0 eX12_tellLet_5 ?_
  refine g_callVv (ci := 11) (w_goesOn st hS.1 t2 (by show K s.1 ≠ 0 ∧ K s.1 ≠ 1; omega)) rfl (Nat.le_of_ble_eq_true rfl) (Nat.le_of_ble_eq_true rfl) rfl cv_X12_238 eX12_tellLet_6 ⟨Nat.le_of_ble_eq_true rfl, Nat.le_of_ble_eq_true rfl⟩ rfl rfl (Nat.le_of_ble_eq_true rfl) (fun u1 h1 => ?_)
  dsimp only at h1
  rcases e1 : psF s with e | s1
  · rw [e1] at h1
    have hf1 := ns_ex t3 h1.1.1
    have he := psF_er e1
    refine g_ald0 eX12_tellLet_9 ?_
    refine g_callVi (ci := 11) (w_namedD u1 h1.1.2.1 he.1 (by omega) hf1.1) rfl (Nat.le_of_ble_eq_true rfl) (Nat.le_of_ble_eq_true rfl) rfl cv_X12_296 eX12_tellLet_10 ⟨Nat.le_of_ble_eq_true rfl, Nat.le_of_ble_eq_true rfl⟩ rfl rfl (Nat.le_of_ble_eq_true rfl) (fun r u1 h9 => ?_)
    obtain ⟨rfl, rfl⟩ := h9
    refine g_ist2 rfl (Nat.le_of_ble_eq_true rfl) eX12_tellLet_13 ?_
    refine g_ald0 eX12_tellLet_14 ?_
    refine g_bipush (v := 11) (by decide) eX12_tellLet_15 ?_
    refine g_callVv (ci := 11) (w_mustD u1 h1.1.2.1 he.1 (by omega) 11) rfl (Nat.le_of_ble_eq_true rfl) (Nat.le_of_ble_eq_true rfl) rfl cv_X12_289 eX12_tellLet_17 ⟨Nat.le_of_ble_eq_true rfl, Nat.le_of_ble_eq_true rfl⟩ rfl rfl (Nat.le_of_ble_eq_true rfl) (fun u1 h9 => ?_)
    subst h9
    exact hd20 u1 e _ (by rw [← hR, e1]; rfl) he h1.1
  · rw [e1] at h1
    obtain ⟨f1, x1⟩ := h1
    obtain ⟨rfl, hlt⟩ := psF_eq e1
    have hS1 := SB_fr hS f1
    refine g_ald0 eX12_tellLet_9 ?_
    refine g_callVi (ci := 11) (w_named u1 hS1 x1) rfl (Nat.le_of_ble_eq_true rfl) (Nat.le_of_ble_eq_true rfl) rfl cv_X12_296 eX12_tellLet_10 ⟨Nat.le_of_ble_eq_true rfl, Nat.le_of_ble_eq_true rfl⟩ rfl rfl (Nat.le_of_ble_eq_true rfl) (fun r u2 h2 => ?_)
    rcases e2 : tkF K 2 ((s.1 + 1, s.2) : GS) with e | s2
    · rw [e2] at h2
      obtain ⟨q1, q2, q3⟩ := h2
      have he := tkF_er e2
      refine g_ist2 rfl (Nat.le_of_ble_eq_true rfl) eX12_tellLet_13 ?_
      refine g_ald0 eX12_tellLet_14 ?_
      refine g_bipush (v := 11) (by decide) eX12_tellLet_15 ?_
      refine g_callVv (ci := 11) (w_mustD u2 q1.2.1 he.1 (by omega) 11) rfl (Nat.le_of_ble_eq_true rfl) (Nat.le_of_ble_eq_true rfl) rfl cv_X12_289 eX12_tellLet_17 ⟨Nat.le_of_ble_eq_true rfl, Nat.le_of_ble_eq_true rfl⟩ rfl rfl (Nat.le_of_ble_eq_true rfl) (fun u2 h9 => ?_)
      subst h9
      refine hd20 u2 e _ ?_ he ⟨f1.trans q1.1, q1.2⟩
      rw [← hR, e1]
      show gb (tkF K 2 (gvF 2 (s.1 + 1) ((s.1 + 1, s.2) : GS))) _ = _
      rw [tkF_er2 (s2 := gvF 2 (s.1 + 1) ((s.1 + 1, s.2) : GS)) e2 rfl]
      rfl
    · rw [e2] at h2
      obtain ⟨f2, rfl, x2⟩ := h2
      have hk2 : K (s.1 + 1) = 2 := (tkF_ok e2).1
      obtain ⟨rfl, hlt2⟩ := psF_eq (tkF_ok e2).2
      have hS2 := SB_fr hS1 f2
      have f12 := f1.trans f2
      refine g_ist2 rfl (Nat.le_of_ble_eq_true rfl) eX12_tellLet_13 ?_
      refine g_ald0 eX12_tellLet_14 ?_
      refine g_bipush (v := 11) (by decide) eX12_tellLet_15 ?_
      refine g_callVv (ci := 11) (w_must u2 hS2.1 x2 61 (by decide) 11 rfl (by decide)) rfl (Nat.le_of_ble_eq_true rfl) (Nat.le_of_ble_eq_true rfl) rfl cv_X12_289 eX12_tellLet_17 ⟨Nat.le_of_ble_eq_true rfl, Nat.le_of_ble_eq_true rfl⟩ rfl rfl (Nat.le_of_ble_eq_true rfl) (fun u3 h3 => ?_)
      have eR2 : R = gb (tkF K 61 ((s.1 + 2, s.2.1, s.2.2 ++ [(2, s.1 + 1)]) : GS)) (fun s3 => gb (exprF K s3) (fun s4 => gb (tkF K 59 s4) (fun s5 => .inr (gvF 3 (s.1 + 1) (wrF 6 s.1 s5))))) := by
        rw [← hR, e1]
        show gb (tkF K 2 (gvF 2 (s.1 + 1) ((s.1 + 1, s.2) : GS))) _ = _
        rw [tkF_mk e2 (s2 := gvF 2 (s.1 + 1) ((s.1 + 1, s.2) : GS)) rfl]
        rfl
      rcases e3 : tkF K 61 ((s.1 + 1 + 1, s.2) : GS) with e | s3
      · rw [e3] at h3
        refine hd20 u3 e _ ?_ (tkF_er e3) ⟨f12.trans h3.1.1, h3.1.2⟩
        rw [eR2, tkF_er2 (s2 := ((s.1 + 2, s.2.1, s.2.2 ++ [(2, s.1 + 1)]) : GS)) e3 rfl]
        rfl
      · rw [e3] at h3
        obtain ⟨f3, x3⟩ := h3
        obtain ⟨rfl, hlt3⟩ := psF_eq (tkF_ok e3).2
        have f13 := f12.trans f3
        have eR3 : R = gb (exprF K ((s.1 + 3, s.2.1, s.2.2 ++ [(2, s.1 + 1)]) : GS)) (fun s4 => gb (tkF K 59 s4) (fun s5 => .inr (gvF 3 (s.1 + 1) (wrF 6 s.1 s5)))) := by
          rw [eR2, tkF_mk e3 (s2 := ((s.1 + 2, s.2.1, s.2.2 ++ [(2, s.1 + 1)]) : GS)) rfl]
          rfl
        have hlt9 : s.1 + 1 + 1 < 300 := hlt3
        have hjs : ∀ j, j < s.1 + 1 → K j ≠ 0 ∧ K j ≠ 1 := fun j hj => by
          by_cases e : j = s.1
          · rw [e]; omega
          · exact t2.1.2.2 j (by show j < s.1; omega)
        have hvn := t1.1 (s.1 + 1) (by omega) hjs
        have hWl : W (s.1 + 1) < 1099511627776 := hvn.2.2.2.2.2.2.2 hk2
        have te1 := te_ex t5 f13
        refine g_ald0 eX12_tellLet_20 ?_
        refine g_getR (ci := 11) (j := 39) rfl (Nat.le_of_ble_eq_true rfl) (Nat.le_of_ble_eq_true rfl) (Nat.le_of_ble_eq_true rfl) rfl rfl fl_X12_76 eX12_tellLet_21 ?_
        refine g_ald0 eX12_tellLet_24 ?_
        refine g_getI (ci := 11) (j := 36) rfl (Nat.le_of_ble_eq_true rfl) (Nat.le_of_ble_eq_true rfl) (Nat.le_of_ble_eq_true rfl) rfl fl_X12_259 eX12_tellLet_25 ?_
        rw [te1.1]
        refine g_ald0 eX12_tellLet_28 ?_
        refine g_getI (ci := 11) (j := 44) rfl (Nat.le_of_ble_eq_true rfl) (Nat.le_of_ble_eq_true rfl) (Nat.le_of_ble_eq_true rfl) rfl fl_X12_268 eX12_tellLet_29 ?_
        rw [show u3.1 31 44 = nI C.length from x3.2.2.2.1.1]
        refine g_iast rfl (Nat.le_of_ble_eq_true rfl) hti eX12_tellLet_32 ?_
        refine g_ald0 eX12_tellLet_33 ?_
        rw [htc]
        have f4 : tlFr st (sI u3 52 TL.length (nI C.length)) := (tl_ex f13).trans (tl_r _ _ (by omega))
        have x4 : exOK K (sI u3 52 TL.length (nI C.length)) ((s.1 + 3, s.2.1, s.2.2 ++ [(2, s.1 + 1)]), 0, C, w3F P W (pmF K P W bs s.2.2).1 (pmF K P W bs s.2.2).2.2.2.2 (s.1 + 1), Wt) := ex_rows x3 (fun j _ => by rw [sI_row (by decide)]) (fun a ha => by rw [sI_row (by omega)])
        have ns1 := ns_ex t3 f13
        have ns2 : nsOK (sI u3 52 TL.length (nI C.length)) (nmL W (pmF K P W bs s.2.2).1) := ns1
        have ct1 := ct_ex t4 f13
        have ct2 : ctM pg (sI u3 52 TL.length (nI C.length)) (pmF K P W bs s.2.2) (n7 gs) := ct1
        have en1 := en_ex t6 f13
        have en2 : enOK K V bs (sI u3 52 TL.length (nI C.length)) (pmF K P W bs s.2.2).2.2.2.1 := en1
        have sk2 := skM_fr t1 f4
        have hS4 : SB K P V W (nmL W (pmF K P W bs s.2.2).1) bs (sI u3 52 TL.length (nI C.length)) := ⟨sk2.1, ns2, sk2.2.1⟩
        refine g_callVv (ci := 11) (w_expression _ hS4 x4 rfl (by show 1 ≤ s.1 + 3; omega) (by show s.2.1.length ≤ s.1 + 3; omega) hb2) rfl (Nat.le_of_ble_eq_true rfl) (Nat.le_of_ble_eq_true rfl) rfl cv_X12_308 eX12_tellLet_34 ⟨Nat.le_of_ble_eq_true rfl, Nat.le_of_ble_eq_true rfl⟩ rfl rfl (Nat.le_of_ble_eq_true rfl) (fun u5 h5 => ?_)
        rcases h5 with ⟨e, q1, q2, q3⟩ | ⟨A, q1, q2, q3⟩
        · exact hdead u5 e _ (by rw [eR3, q1]; rfl) q2 (dD_tr f4 q3)
        · obtain ⟨xs, es, y1, y2, y3, y4, y5, y6, y7, y8, y9⟩ := expr_out q2 q3 q1
          have f5 := q2.1
          have x5 := q2.2.1
          have g5 : gup ((s.1 + 3, s.2.1, s.2.2 ++ [(2, s.1 + 1)]) : GS) A.1 := gKp_ok gK_expr (by show s.1 + 3 ≤ 300; omega) q1
          have hS5 := SB_fr hS4 f5
          refine g_ald0 eX12_tellLet_37 ?_
          refine g_iconst (v := 4) (by decide) eX12_tellLet_38 ?_
          refine g_callVv (ci := 11) (w_must u5 hS5.1 x5 59 (by decide) 4 rfl (by decide)) rfl (Nat.le_of_ble_eq_true rfl) (Nat.le_of_ble_eq_true rfl) rfl cv_X12_289 eX12_tellLet_39 ⟨Nat.le_of_ble_eq_true rfl, Nat.le_of_ble_eq_true rfl⟩ rfl rfl (Nat.le_of_ble_eq_true rfl) (fun u6 h6 => ?_)
          have eR4 : R = gb (tkF K 59 A.1) (fun s5 => .inr (gvF 3 (s.1 + 1) (wrF 6 s.1 s5))) := by rw [eR3, q1]; rfl
          rcases e6 : tkF K 59 A.1 with e | s6
          · rw [e6] at h6
            exact hfin u6 e _ (by rw [eR4, e6]; rfl) (tkF_er e6) (dD_tr (f4.trans (tl_ex f5)) h6.1)
          · rw [e6] at h6
            obtain ⟨f6, x6⟩ := h6
            obtain ⟨rfl, hlt6'⟩ := psF_eq (tkF_ok e6).2
            have eR5 : R = .inr (gvF 3 (s.1 + 1) (wrF 6 s.1 (A.1.1 + 1, A.1.2))) := by rw [eR4, e6]; rfl
            have f56 := f5.trans f6
            have te2 : teOK (sI u3 52 TL.length (nI C.length)) TL := by
              refine ⟨te1.1, fun j hj => ?_⟩
              have h8 := te1.2 j hj
              rw [sI_at, if_neg (by omega)]
              exact h8
            have te6 := te_ex te2 f56
            have ns6 := ns_ex ns2 f56
            have ct6 := ct_ex ct2 f56
            have hfr : u6.1 52 TL.length = nI C.length := by
              rw [f56.1 52 (by decide) (by decide) (by decide) (by decide) (by decide), sI_at, if_pos rfl]
            have hAW : A = (A.1, 0, A.2.2.1, A.2.2.2.1, []) := by
              obtain ⟨A1, A2, A3, A4, A5⟩ := A
              dsimp only at y8 q3
              rw [y8, q3]
            have hc6 : u6.1 31 44 = nI A.2.2.1.length := x6.2.2.2.1.1
            have f6t := f4.trans (tl_ex f56)
            have hw6 : u6.2 37 (s.1 + 1) = lN (W (s.1 + 1)) := by
              rw [f6t.2.2.1 37 (by decide)]; exact hvn.2.2.2.1 hk2
            refine g_ald0 eX12_tellLet_42 ?_
            refine g_getI (ci := 11) (j := 12) rfl (Nat.le_of_ble_eq_true rfl) (Nat.le_of_ble_eq_true rfl) (Nat.le_of_ble_eq_true rfl) rfl fl_X12_217 eX12_tellLet_43 ?_
            rw [x6.2.1]
            refine g_if_le eX12_tellLet_46 (fun hb => ?_) (fun hb => ?_)
            · refine g_ald0 eX12_tellLet_50 ?_
              refine g_ild1 eX12_tellLet_51 ?_
              refine g_ald0 eX12_tellLet_52 ?_
              refine g_getI (ci := 11) (j := 37) rfl (Nat.le_of_ble_eq_true rfl) (Nat.le_of_ble_eq_true rfl) (Nat.le_of_ble_eq_true rfl) rfl fl_X12_262 eX12_tellLet_53 ?_
              rw [ct6.2.1]
              refine g_callVv (ci := 11) (w_ends u6 TL.length A.2.2.1.length te6.1 (by omega) hc6 (nI s.1) (nI (pmF K P W bs s.2.2).2.2.1)) rfl (Nat.le_of_ble_eq_true rfl) (Nat.le_of_ble_eq_true rfl) rfl cv_X12_311 eX12_tellLet_56 ⟨Nat.le_of_ble_eq_true rfl, Nat.le_of_ble_eq_true rfl⟩ rfl rfl (Nat.le_of_ble_eq_true rfl) (fun v1 h7 => ?_)
              have te7 := te_en te6 (c := A.2.2.1.length) (w := s.1) (z := nI (pmF K P W bs s.2.2).2.2.1) hfr
              rw [nI_toInt (by omega), ← h7] at te7
              have x7 := ex_en x6 TL.length (nI A.2.2.1.length) (nI s.1) (nI (pmF K P W bs s.2.2).2.2.1)
              rw [← h7] at x7
              have f7 := f6t.trans (tl_en u6 TL.length (nI A.2.2.1.length) (nI s.1) (nI (pmF K P W bs s.2.2).2.2.1))
              rw [← h7] at f7
              have r7 : ∀ j, j ≠ 36 → v1.1 31 j = u6.1 31 j := fun j hj => by
                rw [h7]
                unfold enS
                rw [sI_1, if_neg (by omega), sI_row (by decide), sI_row (by decide), sI_row (by decide)]
              have rr7 : ∀ b, b ≠ 31 → b ≠ 53 → b ≠ 54 → b ≠ 55 → v1.1 b = u6.1 b := fun b h1 h2 h3 h4 => by
                rw [h7]
                unfold enS
                rw [sI_row h1, sI_row h4, sI_row h3, sI_row h2]
              have l7 : v1.2 = u6.2 := by rw [h7]; rfl
              have ns7 : nsOK v1 (nmL W (pmF K P W bs s.2.2).1) := by
                unfold nsOK
                rw [r7 28 (by decide), rr7 47 (by decide) (by decide) (by decide) (by decide), rr7 48 (by decide) (by decide) (by decide) (by decide), l7]
                exact ns6
              clear h7
              refine g_ald0 eX12_tellLet_59 ?_
              refine g_ild2 eX12_tellLet_60 ?_
              refine g_iconst (v := 1) (by decide) eX12_tellLet_61 ?_
              refine g_ald0 eX12_tellLet_62 ?_
              refine g_getI (ci := 11) (j := 37) rfl (Nat.le_of_ble_eq_true rfl) (Nat.le_of_ble_eq_true rfl) (Nat.le_of_ble_eq_true rfl) rfl fl_X12_262 eX12_tellLet_63 ?_
              rw [show v1.1 31 37 = nI (pmF K P W bs s.2.2).2.2.1 by rw [r7 _ (by decide)]; exact ct6.2.1]
              refine g_callVv (ci := 11) (w_knows v1 ns7 (by rw [nmL_len]; omega) (s.1 + 1) (W (s.1 + 1)) (by omega) (by rw [l7]; exact hw6) 1 (nI (pmF K P W bs s.2.2).2.2.1)) rfl (Nat.le_of_ble_eq_true rfl) (Nat.le_of_ble_eq_true rfl) rfl cv_X12_300 eX12_tellLet_66 ⟨Nat.le_of_ble_eq_true rfl, Nat.le_of_ble_eq_true rfl⟩ rfl rfl (Nat.le_of_ble_eq_true rfl) (fun v2 h8 => ?_)
              have ns8 := ns_kn ns7 (by rw [nmL_len]; omega) (w := W (s.1 + 1)) (s := 1) (a := (pmF K P W bs s.2.2).2.2.1) hWl (by decide) (by omega)
              rw [show nI 1 = (1 : Int32) from rfl, ← h8] at ns8
              have x8 := ex_kn x7 (nmL W (pmF K P W bs s.2.2).1).length (lN (W (s.1 + 1))) 1 (nI (pmF K P W bs s.2.2).2.2.1)
              rw [← h8] at x8
              have f8 := f7.trans (tl_kn v1 (nmL W (pmF K P W bs s.2.2).1).length (lN (W (s.1 + 1))) 1 (nI (pmF K P W bs s.2.2).2.2.1))
              rw [← h8] at f8
              have r8 : ∀ j, j ≠ 28 → v2.1 31 j = v1.1 31 j := fun j hj => by
                rw [h8]
                unfold knS
                rw [sI_1, if_neg (by omega), sI_row (by decide), sI_row (by decide)]; rfl
              have rr8 : ∀ b, b ≠ 31 → b ≠ 47 → b ≠ 48 → v2.1 b = v1.1 b := fun b h1 h2 h3 => by
                rw [h8]
                unfold knS
                rw [sI_row h1, sI_row h3, sI_row h2]; rfl
              clear h8
              refine g_ald0 eX12_tellLet_69 ?_
              refine g_dup rfl eX12_tellLet_70 ?_
              refine g_getI (ci := 11) (j := 37) rfl (Nat.le_of_ble_eq_true rfl) (Nat.le_of_ble_eq_true rfl) (Nat.le_of_ble_eq_true rfl) rfl fl_X12_262 eX12_tellLet_71 ?_
              rw [show v2.1 31 37 = nI (pmF K P W bs s.2.2).2.2.1 by rw [r8 _ (by decide), r7 _ (by decide)]; exact ct6.2.1]
              refine g_iconst (v := 1) (by decide) eX12_tellLet_74 ?_
              refine g_iadd eX12_tellLet_75 ?_
              refine g_putI (ci := 11) (j := 37) rfl rfl (Nat.le_of_ble_eq_true rfl) (Nat.le_of_ble_eq_true rfl) (Nat.le_of_ble_eq_true rfl) rfl fl_X12_262 eX12_tellLet_76 ?_
              rw [show nI (pmF K P W bs s.2.2).2.2.1 + 1 = nI ((pmF K P W bs s.2.2).2.2.1 + 1) from nI_1 _]
              refine g_vret rfl eX12_tellLet_79 ⟨rfl, ?_⟩
              try dsimp only
              unfold tuP
              rw [eR5]
              have f9 := f8.trans (tl_f (j := 37) _ (nI ((pmF K P W bs s.2.2).2.2.1 + 1)) (by omega))
              have hlen7 : (gvF 3 (s.1 + 1) (wrF 6 s.1 (A.1.1 + 1, A.1.2))).2.1.length ≤ A.1.1 + 1 := by
                show (A.1.2.1 ++ [(6, s.1)]).length ≤ A.1.1 + 1
                rw [List.length_append, List.length_singleton]; omega
              obtain ⟨hkp, eP⟩ := TKp_let t7 (s2 := gvF 3 (s.1 + 1) (wrF 6 s.1 (A.1.1 + 1, A.1.2))) (xs := xs) (es := es) (word := s.1) (a := s.1 + 1) (by show A.1.2.1 ++ [(6, s.1)] = _; rw [y1]) (by show A.1.2.2 ++ [(3, s.1 + 1)] = _; rw [y2]) y5 y6 (by
                intro x hx
                have hx2 : x ∈ A.1.2.1 ++ [(6, s.1)] := hx
                rcases List.mem_append.mp hx2 with q | q
                · have h9 := y7 (oe_more (s2 := ((s.1 + 3, s.2.1, s.2.2 ++ [(2, s.1 + 1)]) : GS)) t7.1.2.2 rfl rfl) x q
                  exact ⟨fun z => List.mem_append_left _ (h9.1 z), fun z => List.mem_append_left _ (h9.2 z)⟩
                · rw [List.mem_singleton.mp q]
                  exact ⟨fun z => absurd z (by show ¬ (6 : Nat) = 2; decide), fun z => absurd z (by show ¬ (6 : Nat) = 9; decide)⟩) hlen7 (by show s.1 + 4 ≤ A.1.1 + 1; have : s.1 + 3 < A.1.1 := g5.2; omega)
              rw [← y3] at hkp
              rw [← y4] at eP
              refine ⟨f9, _, _, _, ⟨skM_fr t1 f9, ⟨[], ?_⟩, ?_, ?_, ?_, ?_, hkp⟩, ?_⟩
              · rw [eP]
                rw [hAW] at x8
                exact ex_rows x8 (fun j hj => by rw [sI_1, if_neg (by omega)]) (fun b hb => by rw [sI_row (by omega)])
              · rw [eP, nmL_app]
                unfold nsOK
                rw [sI_1, if_neg (by omega), sI_row (a := 47) (by decide), sI_row (a := 48) (by decide)]
                exact ns8
              · rw [eP, n7_app, if_neg (show ¬ (6 : Nat) = 7 by decide)]
                refine ⟨?_, ?_, ?_, ?_⟩
                · rw [sI_row (by decide), rr8 39 (by decide) (by decide) (by decide), rr7 39 (by decide) (by decide) (by decide) (by decide)]; exact ct6.1
                · rw [sI_1, if_pos ⟨rfl, rfl⟩]
                · rw [sI_1, if_neg (by omega), r8 _ (by decide), r7 _ (by decide)]; exact ct6.2.2.1
                · rw [sI_1, if_neg (by omega), r8 _ (by decide), r7 _ (by decide)]; exact ct6.2.2.2
              · unfold teOK
                rw [sI_1, if_neg (by omega), sI_row (a := 52) (by decide), sI_row (a := 53) (by decide), sI_row (a := 54) (by decide), sI_row (a := 55) (by decide), r8 36 (by decide), rr8 52 (by decide) (by decide) (by decide), rr8 53 (by decide) (by decide) (by decide), rr8 54 (by decide) (by decide) (by decide), rr8 55 (by decide) (by decide) (by decide)]
                exact te7
              · rw [eP]
                unfold enOK
                rw [sI_row (a := 50) (by decide), rr8 50 (by decide) (by decide) (by decide), rr7 50 (by decide) (by decide) (by decide) (by decide)]
                exact en_ex en2 f56
              · rw [eP, n7_app, if_neg (show ¬ (6 : Nat) = 7 by decide)]
                rfl
            · exact absurd (show (0 : Int32) ≤ 0 by decide) hb
end TELL
