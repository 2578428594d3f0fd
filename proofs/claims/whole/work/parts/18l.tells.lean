/-! THE MODEL PARSES: an out, a let -/
def dD (P : Nat → Nat) (st u : St) (e : Nat × Nat) : Prop := tlFr st u ∧ u.1 31 12 = nI e.1 ∧ u.1 31 13 = nI (P e.2)
theorem dD_ex {P : Nat → Nat} {st u : St} {e : Nat × Nat} (h : exD P st u e) : dD P st u e := ⟨tl_ex h.1, h.2⟩
theorem dD_tr {P : Nat → Nat} {st u w : St} {e : Nat × Nat} (hf : tlFr st u) (h : exD P u w e) : dD P st w e := ⟨hf.trans (tl_ex h.1), h.2⟩
theorem tu_dead {K P V W : Nat → Nat} {bs pg : Nat} {st u : St} {p : PM} {o : Nat} {R : GR} {p2 : Nat × Nat × Nat} {e : Nat × Nat} (hR : R = .inl e) (he : 1 ≤ e.1 ∧ e.1 ≤ 2) (h : dD P st u e) : tuP K P V W bs pg st p o R p2 u := by
  unfold tuP
  rw [hR]
  exact ⟨h.1, h.2.1, h.2.2, he.1, he.2⟩
section TELO
variable {l : Launch} {D : va_G} {cy : Nat → ClassId} {K P V W : Nat → Nat} {bs pg : Nat}
/-- what an expression leaves, in words that the next tell needs -/
theorem expr_out {s1 : GS} {C : List (Nat × Nat)} {w : Nat × Nat} {Wt : List WE} {st u : St} {Nm : List MN} {A : EA} (hI : IV K P V W Nm bs st (s1, 0, C, w, Wt) u A) (hW : A.2.2.2.2 = []) (hR : exprF K s1 = .inr A.1) : ∃ xs es, A.1.2.1 = s1.2.1 ++ xs ∧ A.1.2.2 = s1.2.2 ++ es ∧ A.2.2.1 = C ++ xs.flatMap (cdT Nm V W bs) ∧ A.2.2.2.1 = es.foldl (evW Nm P W) w ∧ (∀ x ∈ xs, x.1 ≠ 6 ∧ x.1 ≠ 7) ∧ (∀ e ∈ es, e.1 = 4 ∨ e.1 = 5) ∧ (oe s1 → oe A.1) ∧ A.2.1 = 0 ∧ A.1.2.1.length ≤ A.1.1 := by
  obtain ⟨i1, i2, i3, i4, i5, i6, i7, i8, i9, xs, es, t1, t2, t3, t4⟩ := hI
  obtain ⟨⟨ys, y1, y2⟩, ⟨fs, f1, f2⟩, ho⟩ := gX_expr (K := K) s1 A.1 hR
  have ex : xs = ys := List.append_cancel_left (as := s1.2.1) (by rw [← y1]; exact t1.symm)
  have ee : es = fs := List.append_cancel_left (as := s1.2.2) (by rw [← f1]; exact t2.symm)
  refine ⟨xs, es, t1, t2, t3, t4, by rw [ex]; exact y2, by rw [ee]; exact f2, ho, by rw [i4, hW]; rfl, ?_⟩
  rw [hW] at i6
  exact i6
theorem w_tellOut (st : St) {s : GS} {gs : List GP} {C : List (Nat × Nat)} {TL : List TE} (hT : TK K P V W bs pg st s gs C TL) (hk : K s.1 = 7) (h7 : n7 gs < 4) : Mv l D cy 5 YX12_tellOut [.ref 31] st (tuP K P V W bs pg st (pmF K P W bs s.2.2) (n7 gs) (gb (psF s) (fun s1 => gb (exprF K s1) (fun s2 => gb (tkF K 59 s2) (fun s3 => .inr (wrF 7 s.1 s3))))) ((pmF K P W bs s.2.2).2.1, (pmF K P W bs s.2.2).2.2.2.1.length, n7 gs + 1)) := by
  obtain ⟨t1, ⟨Wt, t2⟩, t3, t4, t5, t6, t7⟩ := hT
  have hS : SB K P V W (nmL W (pmF K P W bs s.2.2).1) bs st := ⟨t1.1, t3, t1.2.1⟩
  have h300 : s.1 ≤ 300 := t2.1.2.1
  have hb1 : s.2.1.length ≤ s.1 := t7.2.1.1
  have hb2 : C.length ≤ s.2.1.length := t7.2.1.2.1
  have hb3 : 4 * TL.length ≤ s.1 + n7 gs := t7.2.1.2.2.1
  generalize hR : gb (psF s) (fun s1 => gb (exprF K s1) (fun s2 => gb (tkF K 59 s2) (fun s3 => .inr (wrF 7 s.1 s3)))) = R
  refine M.ofG [some (.ref 31), none] (by decide) (Nat.le_of_ble_eq_true rfl) rfl ?_
  intro xp xe xs xm xa xb xme xc xad xA
  have hfin : ∀ (u : St) (e : Nat × Nat), R = .inl e → 1 ≤ e.1 ∧ e.1 ≤ 2 → dD P st u e → G xp l xe (rmd (5)) xs xm xa xb xme xc D cy xad xA (YX12_tellOut.2.1, YX12_tellOut.1.cls, YX12_tellOut.2.2.1, YX12_tellOut.2.2.2) (Pv (tuP K P V W bs pg st (pmF K P W bs s.2.2) (n7 gs) R ((pmF K P W bs s.2.2).2.1, (pmF K P W bs s.2.2).2.2.2.1.length, n7 gs + 1))) 31 ([some (.ref 31), some (.int (nI s.1))]) ([]) (u) := by
    intro u e hR2 he hd
    refine g_ald0 eX12_tellOut_31 ?_
    refine g_getI (ci := 11) (j := 12) rfl (Nat.le_of_ble_eq_true rfl) (Nat.le_of_ble_eq_true rfl) (Nat.le_of_ble_eq_true rfl) rfl fl_X12_217 eX12_tellOut_32 ?_
    rw [hd.2.1]
    refine g_if_le eX12_tellOut_35 (fun hb => ?_) (fun hb => ?_)
    · exact absurd hb (nI_nle (by omega) (by omega))
    · exact g_vret rfl eX12_tellOut_38 ⟨rfl, (tu_dead hR2 he hd)⟩
  have hdead : ∀ (u : St) (e : Nat × Nat), R = .inl e → 1 ≤ e.1 ∧ e.1 ≤ 2 → dD P st u e → G xp l xe (rmd (5)) xs xm xa xb xme xc D cy xad xA (YX12_tellOut.2.1, YX12_tellOut.1.cls, YX12_tellOut.2.2.1, YX12_tellOut.2.2.2) (Pv (tuP K P V W bs pg st (pmF K P W bs s.2.2) (n7 gs) R ((pmF K P W bs s.2.2).2.1, (pmF K P W bs s.2.2).2.2.2.1.length, n7 gs + 1))) 26 ([some (.ref 31), some (.int (nI s.1))]) ([]) (u) := by
    intro u e hR2 he hd
    refine g_ald0 eX12_tellOut_26 ?_
    refine g_iconst (v := 4) (by decide) eX12_tellOut_27 ?_
    refine g_callVv (ci := 11) (w_mustD u hd.2.1 he.1 (by omega) 4) rfl (Nat.le_of_ble_eq_true rfl) (Nat.le_of_ble_eq_true rfl) rfl cv_X12_289 eX12_tellOut_28 ⟨Nat.le_of_ble_eq_true rfl, Nat.le_of_ble_eq_true rfl⟩ rfl rfl (Nat.le_of_ble_eq_true rfl) (fun u h => ?_)
    subst h
    exact hfin u e hR2 he hd
  have hti : vp_in (nI TL.length) 100 := vp_in_nI (by omega) (by decide)
  have htc : (nI TL.length).toNatClampNeg = TL.length := nI_clamp (by omega)
  refine g_ald0 eX12_tellOut_0 ?_
  refine g_getI (ci := 11) (j := 10) rfl (Nat.le_of_ble_eq_true rfl) (Nat.le_of_ble_eq_true rfl) (Nat.le_of_ble_eq_true rfl) rfl fl_X12_220 eX12_tellOut_1 ?_
  rw [show st.1 31 10 = nI s.1 from t2.1.1]
  refine g_ist1 rfl (Nat.le_of_ble_eq_true rfl) eX12_tellOut_4 ?_
  refine g_ald0 eX12_tellOut_5 ?_
  refine g_callVv (ci := 11) (w_goesOn st hS.1 t2 (by show K s.1 ≠ 0 ∧ K s.1 ≠ 1; omega)) rfl (Nat.le_of_ble_eq_true rfl) (Nat.le_of_ble_eq_true rfl) rfl cv_X12_238 eX12_tellOut_6 ⟨Nat.le_of_ble_eq_true rfl, Nat.le_of_ble_eq_true rfl⟩ rfl rfl (Nat.le_of_ble_eq_true rfl) (fun u1 h1 => ?_)
  dsimp only at h1
  rcases e1 : psF s with e | s1
  · rw [e1] at h1
    have te1 := te_ex t5 h1.1.1
    refine g_ald0 eX12_tellOut_9 ?_
    refine g_getR (ci := 11) (j := 39) rfl (Nat.le_of_ble_eq_true rfl) (Nat.le_of_ble_eq_true rfl) (Nat.le_of_ble_eq_true rfl) rfl rfl fl_X12_76 eX12_tellOut_10 ?_
    refine g_ald0 eX12_tellOut_13 ?_
    refine g_getI (ci := 11) (j := 36) rfl (Nat.le_of_ble_eq_true rfl) (Nat.le_of_ble_eq_true rfl) (Nat.le_of_ble_eq_true rfl) rfl fl_X12_259 eX12_tellOut_14 ?_
    rw [te1.1]
    refine g_ald0 eX12_tellOut_17 ?_
    refine g_getI (ci := 11) (j := 44) rfl (Nat.le_of_ble_eq_true rfl) (Nat.le_of_ble_eq_true rfl) (Nat.le_of_ble_eq_true rfl) rfl fl_X12_268 eX12_tellOut_18 ?_
    refine g_iast rfl (Nat.le_of_ble_eq_true rfl) hti eX12_tellOut_21 ?_
    rw [htc]
    have hd1 : dD P st (sI u1 52 TL.length (u1.1 31 44)) e := ⟨(tl_ex h1.1.1).trans (tl_r _ _ (by omega)), h1.1.2.1, h1.1.2.2⟩
    refine g_ald0 eX12_tellOut_22 ?_
    refine g_callVv (ci := 11) (w_expressionD _ hd1.2.1 (psF_er e1).1 (by have := psF_er e1; omega)) rfl (Nat.le_of_ble_eq_true rfl) (Nat.le_of_ble_eq_true rfl) rfl cv_X12_308 eX12_tellOut_23 ⟨Nat.le_of_ble_eq_true rfl, Nat.le_of_ble_eq_true rfl⟩ rfl rfl (Nat.le_of_ble_eq_true rfl) (fun u2 h2 => ?_)
    subst h2
    refine hdead _ e (by rw [← hR, e1]; rfl) (psF_er e1) ⟨hd1.1.trans (tl_ex (exFr_f _ _ (by omega))), ?_, ?_⟩
    · rw [sI_1, if_neg (by omega)]; exact hd1.2.1
    · rw [sI_1, if_neg (by omega)]; exact hd1.2.2
  · rw [e1] at h1
    obtain ⟨f1, x1⟩ := h1
    obtain ⟨rfl, hlt⟩ := psF_eq e1
    have te1 := te_ex t5 f1
    refine g_ald0 eX12_tellOut_9 ?_
    refine g_getR (ci := 11) (j := 39) rfl (Nat.le_of_ble_eq_true rfl) (Nat.le_of_ble_eq_true rfl) (Nat.le_of_ble_eq_true rfl) rfl rfl fl_X12_76 eX12_tellOut_10 ?_
    refine g_ald0 eX12_tellOut_13 ?_
    refine g_getI (ci := 11) (j := 36) rfl (Nat.le_of_ble_eq_true rfl) (Nat.le_of_ble_eq_true rfl) (Nat.le_of_ble_eq_true rfl) rfl fl_X12_259 eX12_tellOut_14 ?_
    rw [te1.1]
    refine g_ald0 eX12_tellOut_17 ?_
    refine g_getI (ci := 11) (j := 44) rfl (Nat.le_of_ble_eq_true rfl) (Nat.le_of_ble_eq_true rfl) (Nat.le_of_ble_eq_true rfl) rfl fl_X12_268 eX12_tellOut_18 ?_
    rw [show u1.1 31 44 = nI C.length from x1.2.2.2.1.1]
    refine g_iast rfl (Nat.le_of_ble_eq_true rfl) hti eX12_tellOut_21 ?_
    refine g_ald0 eX12_tellOut_22 ?_
    rw [htc]
    have f2 : tlFr st (sI u1 52 TL.length (nI C.length)) := (tl_ex f1).trans (tl_r _ _ (by omega))
    have x2 : exOK K (sI u1 52 TL.length (nI C.length)) ((s.1 + 1, s.2), 0, C, (pmF K P W bs s.2.2).2.2.2.2, Wt) := ex_rows x1 (fun j _ => by rw [sI_row (by decide)]) (fun a ha => by rw [sI_row (by omega)])
    have ns1 := ns_ex t3 f1
    have ns2 : nsOK (sI u1 52 TL.length (nI C.length)) (nmL W (pmF K P W bs s.2.2).1) := ns1
    have ct1 := ct_ex t4 f1
    have ct2 : ctM pg (sI u1 52 TL.length (nI C.length)) (pmF K P W bs s.2.2) (n7 gs) := ct1
    have en1 := en_ex t6 f1
    have en2 : enOK K V bs (sI u1 52 TL.length (nI C.length)) (pmF K P W bs s.2.2).2.2.2.1 := en1
    have sk2 := skM_fr t1 f2
    have hS2 : SB K P V W (nmL W (pmF K P W bs s.2.2).1) bs (sI u1 52 TL.length (nI C.length)) := ⟨sk2.1, ns2, sk2.2.1⟩
    refine g_callVv (ci := 11) (w_expression _ hS2 x2 rfl (by show 1 ≤ s.1 + 1; omega) (by show s.2.1.length ≤ s.1 + 1; omega) hb2) rfl (Nat.le_of_ble_eq_true rfl) (Nat.le_of_ble_eq_true rfl) rfl cv_X12_308 eX12_tellOut_23 ⟨Nat.le_of_ble_eq_true rfl, Nat.le_of_ble_eq_true rfl⟩ rfl rfl (Nat.le_of_ble_eq_true rfl) (fun u3 h3 => ?_)
    rcases h3 with ⟨e, q1, q2, q3⟩ | ⟨A, q1, q2, q3⟩
    · refine hdead u3 e ?_ q2 (dD_tr f2 q3)
      rw [← hR, e1]
      show gb (exprF K ((s.1 + 1, s.2) : GS)) _ = _
      rw [q1]
      rfl
    · obtain ⟨xs, es, y1, y2, y3, y4, y5, y6, y7, y8, y9⟩ := expr_out q2 q3 q1
      have f3 := q2.1
      have x3 := q2.2.1
      have g3 : gup ((s.1 + 1, s.2) : GS) A.1 := gKp_ok gK_expr (by show s.1 + 1 ≤ 300; omega) q1
      have hS3 := SB_fr hS2 f3
      refine g_ald0 eX12_tellOut_26 ?_
      refine g_iconst (v := 4) (by decide) eX12_tellOut_27 ?_
      refine g_callVv (ci := 11) (w_must u3 hS3.1 x3 59 (by decide) 4 rfl (by decide)) rfl (Nat.le_of_ble_eq_true rfl) (Nat.le_of_ble_eq_true rfl) rfl cv_X12_289 eX12_tellOut_28 ⟨Nat.le_of_ble_eq_true rfl, Nat.le_of_ble_eq_true rfl⟩ rfl rfl (Nat.le_of_ble_eq_true rfl) (fun u4 h4 => ?_)
      have eR2 : R = gb (tkF K 59 A.1) (fun s3 => .inr (wrF 7 s.1 s3)) := by
        rw [← hR, e1]
        show gb (exprF K ((s.1 + 1, s.2) : GS)) _ = _
        rw [q1]
        rfl
      rcases e4 : tkF K 59 A.1 with e | s4
      · rw [e4] at h4
        refine hfin u4 e (by rw [eR2, e4]; rfl) (tkF_er e4) (dD_tr (f2.trans (tl_ex f3)) h4.1)
      · rw [e4] at h4
        obtain ⟨f4, x4⟩ := h4
        obtain ⟨rfl, hlt4⟩ := psF_eq (tkF_ok e4).2
        have eR3 : R = .inr (wrF 7 s.1 (A.1.1 + 1, A.1.2)) := by rw [eR2, e4]; rfl
        have f34 := f3.trans f4
        have te2 : teOK (sI u1 52 TL.length (nI C.length)) TL := by
          refine ⟨te1.1, fun j hj => ?_⟩
          have h8 := te1.2 j hj
          rw [sI_at, if_neg (by omega)]
          exact h8
        have te4 := te_ex te2 f34
        have hfr : u4.1 52 TL.length = nI C.length := by
          rw [f34.1 52 (by decide) (by decide) (by decide) (by decide) (by decide), sI_at, if_pos rfl]
        have hAW : A = (A.1, 0, A.2.2.1, A.2.2.2.1, []) := by
          obtain ⟨A1, A2, A3, A4, A5⟩ := A
          dsimp only at y8 q3
          rw [y8, q3]
        have hc4 : u4.1 31 44 = nI A.2.2.1.length := x4.2.2.2.1.1
        refine g_ald0 eX12_tellOut_31 ?_
        refine g_getI (ci := 11) (j := 12) rfl (Nat.le_of_ble_eq_true rfl) (Nat.le_of_ble_eq_true rfl) (Nat.le_of_ble_eq_true rfl) rfl fl_X12_217 eX12_tellOut_32 ?_
        rw [x4.2.1]
        refine g_if_le eX12_tellOut_35 (fun hb => ?_) (fun hb => ?_)
        · refine g_ald0 eX12_tellOut_39 ?_
          refine g_ild1 eX12_tellOut_40 ?_
          refine g_iconst (v := (-1)) (by decide) eX12_tellOut_41 ?_
          refine g_callVv (ci := 11) (w_ends u4 TL.length A.2.2.1.length te4.1 (by omega) hc4 (nI s.1) (-1)) rfl (Nat.le_of_ble_eq_true rfl) (Nat.le_of_ble_eq_true rfl) rfl cv_X12_311 eX12_tellOut_42 ⟨Nat.le_of_ble_eq_true rfl, Nat.le_of_ble_eq_true rfl⟩ rfl rfl (Nat.le_of_ble_eq_true rfl) (fun u5 h5 => ?_)
          subst h5
          have ct4 := ct_ex ct2 f34
          have e38 : (enS u4 TL.length (nI A.2.2.1.length) (nI s.1) (-1)).1 31 38 = nI (n7 gs) := by
            unfold enS
            rw [sI_1, if_neg (by omega), sI_row (by decide), sI_row (by decide), sI_row (by decide)]
            exact ct4.2.2.2
          refine g_ald0 eX12_tellOut_45 ?_
          refine g_dup rfl eX12_tellOut_46 ?_
          refine g_getI (ci := 11) (j := 38) rfl (Nat.le_of_ble_eq_true rfl) (Nat.le_of_ble_eq_true rfl) (Nat.le_of_ble_eq_true rfl) rfl fl_X12_265 eX12_tellOut_47 ?_
          rw [e38]
          refine g_iconst (v := 1) (by decide) eX12_tellOut_50 ?_
          refine g_iadd eX12_tellOut_51 ?_
          refine g_putI (ci := 11) (j := 38) rfl rfl (Nat.le_of_ble_eq_true rfl) (Nat.le_of_ble_eq_true rfl) (Nat.le_of_ble_eq_true rfl) rfl fl_X12_265 eX12_tellOut_52 ?_
          rw [show nI (n7 gs) + 1 = nI (n7 gs + 1) from nI_1 _]
          refine g_vret rfl eX12_tellOut_55 ⟨rfl, ?_⟩
          try dsimp only
          unfold tuP
          rw [eR3]
          have te5 := te_en te4 (c := A.2.2.1.length) (w := s.1) (z := -1) hfr
          rw [show (-1 : Int32).toInt = -1 from rfl] at te5
          have f5 := (f2.trans (tl_ex f34)).trans (tl_en u4 TL.length (nI A.2.2.1.length) (nI s.1) (-1))
          have f6 := f5.trans (tl_f (j := 38) _ (nI (n7 gs + 1)) (by omega))
          have eP : pmF K P W bs (wrF 7 s.1 (A.1.1 + 1, A.1.2)).2.2 = ((pmF K P W bs s.2.2).1, (pmF K P W bs s.2.2).2.1, (pmF K P W bs s.2.2).2.2.1, (pmF K P W bs s.2.2).2.2.2.1, A.2.2.2.1) := by
            show pmF K P W bs A.1.2.2 = _
            rw [y2, pmF_use _ _ y6, y4]
          have hlen7 : (wrF 7 s.1 (A.1.1 + 1, A.1.2)).2.1.length ≤ A.1.1 + 1 := by
            show (A.1.2.1 ++ [(7, s.1)]).length ≤ A.1.1 + 1
            rw [List.length_append, List.length_singleton]; omega
          have hkp := TKp_out t7 (s2 := wrF 7 s.1 (A.1.1 + 1, A.1.2)) (xs := xs) (es := es) (word := s.1) (by show A.1.2.1 ++ [(7, s.1)] = _; rw [y1]) y2 y5 y6 (by
            intro x hx
            have hx2 : x ∈ A.1.2.1 ++ [(7, s.1)] := hx
            rcases List.mem_append.mp hx2 with q | q
            · exact y7 t7.1.2.2 x q
            · rw [List.mem_singleton.mp q]
              exact ⟨fun z => absurd z (by show ¬ (7 : Nat) = 2; decide), fun z => absurd z (by show ¬ (7 : Nat) = 9; decide)⟩) hlen7 (by show s.1 + 3 ≤ A.1.1 + 1; have : s.1 + 1 < A.1.1 := g3.2; omega) h7
          rw [← y3] at hkp
          have r31 : ∀ j, j ≠ 36 → j ≠ 38 → (sI (enS u4 TL.length (nI A.2.2.1.length) (nI s.1) (-1)) 31 38 (nI (n7 gs + 1))).1 31 j = u4.1 31 j := fun j h1 h2 => by
            rw [sI_1, if_neg (by omega)]
            unfold enS
            rw [sI_1, if_neg (by omega), sI_row (by decide), sI_row (by decide), sI_row (by decide)]
          have rr : ∀ b, b ≠ 31 → b ≠ 53 → b ≠ 54 → b ≠ 55 → (sI (enS u4 TL.length (nI A.2.2.1.length) (nI s.1) (-1)) 31 38 (nI (n7 gs + 1))).1 b = u4.1 b := fun b h1 h2 h3 h4 => by
            rw [sI_row h1]
            unfold enS
            rw [sI_row h1, sI_row h4, sI_row h3, sI_row h2]
          refine ⟨f6, _, _, _, ⟨skM_fr t1 f6, ⟨[], ?_⟩, ?_, ?_, ?_, ?_, hkp⟩, ?_⟩
          · rw [eP]
            rw [hAW] at x4
            exact ex_rows x4 (fun j hj => r31 j (by omega) (by omega)) (fun b hb => rr b (by omega) (by omega) (by omega) (by omega))
          · rw [eP]
            unfold nsOK
            rw [r31 28 (by decide) (by decide), rr 47 (by decide) (by decide) (by decide) (by decide), rr 48 (by decide) (by decide) (by decide) (by decide)]
            exact ns_ex ns2 f34
          · rw [eP, n7_app, if_pos rfl]
            refine ⟨?_, ?_, ?_, ?_⟩
            · rw [rr 39 (by decide) (by decide) (by decide) (by decide)]; exact ct4.1
            · rw [r31 _ (by decide) (by decide)]; exact ct4.2.1
            · rw [r31 _ (by decide) (by decide)]; exact ct4.2.2.1
            · rw [sI_1, if_pos ⟨rfl, rfl⟩]
          · unfold teOK
            rw [sI_1, if_neg (by omega), sI_row (a := 52) (by decide), sI_row (a := 53) (by decide), sI_row (a := 54) (by decide), sI_row (a := 55) (by decide)]
            exact te5
          · rw [eP]
            unfold enOK
            rw [rr 50 (by decide) (by decide) (by decide) (by decide)]
            exact en_ex en2 f34
          · rw [eP, n7_app, if_pos rfl]
        · exact absurd (show (0 : Int32) ≤ 0 by decide) hb
end TELO
