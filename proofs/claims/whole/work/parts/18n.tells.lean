/-! THE MODEL PARSES: a table -/
section TELT
variable {l : Launch} {D : va_G} {cy : Nat → ClassId} {K P V W : Nat → Nat} {bs pg : Nat}
theorem w_tellTable (st : St) {s : GS} {gs : List GP} {C : List (Nat × Nat)} {TL : List TE} (hT : TK K P V W bs pg st s gs C TL) (hk : K s.1 = 5) (h4 : (pmF K P W bs s.2.2).2.2.2.1.length < 4) : Mv l D cy 4 YX12_tellTable [.ref 31] st (tuP K P V W bs pg st (pmF K P W bs s.2.2) (n7 gs) (gb (psF s) (fun s1 => gb (tkF K 2 (gvF 1 s1.1 s1)) (fun s2 => gb (tkF K 58 s2) (fun s3 => gb (numsF K s3) (fun s4 => gb (tkF K 59 s4) .inr))))) ((pmF K P W bs s.2.2).2.1, (pmF K P W bs s.2.2).2.2.2.1.length + 1, n7 gs)) := by
  obtain ⟨t1, ⟨Wt, t2⟩, t3, t4, t5, t6, t7⟩ := hT
  have hS : SB K P V W (nmL W (pmF K P W bs s.2.2).1) bs st := ⟨t1.1, t3, t1.2.1⟩
  have h300 : s.1 ≤ 300 := t2.1.2.1
  have hlen : 3 * (pmF K P W bs s.2.2).1.length ≤ s.1 := t7.2.1.2.2.2
  have hbs := t1.2.1
  generalize hR : gb (psF s) (fun s1 => gb (tkF K 2 (gvF 1 s1.1 s1)) (fun s2 => gb (tkF K 58 s2) (fun s3 => gb (numsF K s3) (fun s4 => gb (tkF K 59 s4) .inr)))) = R
  generalize hp : pmF K P W bs s.2.2 = p at *
  refine M.ofG [some (.ref 31), none, none, none, none] (by decide) (Nat.le_of_ble_eq_true rfl) rfl ?_
  intro xp xe xs xm xa xb xme xc xad xA
  have hfin : ∀ (u : St) (e : Nat × Nat) (z y2 y3 y4 : Option Value), R = .inl e → 1 ≤ e.1 ∧ e.1 ≤ 2 → dD P st u e → G xp l xe (rmd (4)) xs xm xa xb xme xc D cy xad xA (YX12_tellTable.2.1, YX12_tellTable.1.cls, YX12_tellTable.2.2.1, YX12_tellTable.2.2.2) (Pv (tuP K P V W bs pg st p (n7 gs) R (p.2.1, p.2.2.2.1.length + 1, n7 gs))) 106 ([some (.ref 31), z, y2, y3, y4]) ([]) (u) := by
    intro u e z y2 y3 y4 hR2 he hd
    refine g_ald0 eX12_tellTable_106 ?_
    refine g_getI (ci := 11) (j := 12) rfl (Nat.le_of_ble_eq_true rfl) (Nat.le_of_ble_eq_true rfl) (Nat.le_of_ble_eq_true rfl) rfl fl_X12_217 eX12_tellTable_107 ?_
    rw [hd.2.1]
    refine g_if_le eX12_tellTable_110 (fun hb => ?_) (fun hb => ?_)
    · exact absurd hb (nI_nle (by omega) (by omega))
    · exact g_vret rfl eX12_tellTable_113 ⟨rfl, (tu_dead hR2 he hd)⟩
  have hdead : ∀ (u : St) (e : Nat × Nat) (x : Int32) (z y2 y4 : Option Value), R = .inl e → 1 ≤ e.1 ∧ e.1 ≤ 2 → dD P st u e → G xp l xe (rmd (4)) xs xm xa xb xme xc D cy xad xA (YX12_tellTable.2.1, YX12_tellTable.1.cls, YX12_tellTable.2.2.1, YX12_tellTable.2.2.2) (Pv (tuP K P V W bs pg st p (n7 gs) R (p.2.1, p.2.2.2.1.length + 1, n7 gs))) 18 ([some (.ref 31), z, y2, some (.int x), y4]) ([]) (u) := by
    intro u e x z y2 y4 hR2 he hd
    have h101 : G xp l xe (rmd (4)) xs xm xa xb xme xc D cy xad xA (YX12_tellTable.2.1, YX12_tellTable.1.cls, YX12_tellTable.2.2.1, YX12_tellTable.2.2.2) (Pv (tuP K P V W bs pg st p (n7 gs) R (p.2.1, p.2.2.2.1.length + 1, n7 gs))) 101 ([some (.ref 31), z, y2, some (.int x), y4]) ([]) (u) := by
      refine g_ald0 eX12_tellTable_101 ?_
      refine g_iconst (v := 4) (by decide) eX12_tellTable_102 ?_
      refine g_callVv (ci := 11) (w_mustD u hd.2.1 he.1 (by omega) 4) rfl (Nat.le_of_ble_eq_true rfl) (Nat.le_of_ble_eq_true rfl) rfl cv_X12_289 eX12_tellTable_103 ⟨Nat.le_of_ble_eq_true rfl, Nat.le_of_ble_eq_true rfl⟩ rfl rfl (Nat.le_of_ble_eq_true rfl) (fun u h => ?_)
      subst h
      exact hfin u e z y2 _ y4 hR2 he hd
    refine g_ild3 eX12_tellTable_18 ?_
    refine g_if_eq eX12_tellTable_19 (fun hb => ?_) (fun hb => ?_)
    · exact h101
    · refine g_ald0 eX12_tellTable_22 ?_
      refine g_getI (ci := 11) (j := 12) rfl (Nat.le_of_ble_eq_true rfl) (Nat.le_of_ble_eq_true rfl) (Nat.le_of_ble_eq_true rfl) rfl fl_X12_217 eX12_tellTable_23 ?_
      rw [hd.2.1]
      refine g_if_ne eX12_tellTable_26 (fun hb2 => ?_) (fun hb2 => ?_)
      · exact h101
      · exact absurd hb2 (nI_ne0 (by omega) (by omega))
  refine g_ald0 eX12_tellTable_0 ?_
  refine g_callVv (ci := 11) (w_goesOn st hS.1 t2 (by show K s.1 ≠ 0 ∧ K s.1 ≠ 1; omega)) rfl (Nat.le_of_ble_eq_true rfl) (Nat.le_of_ble_eq_true rfl) rfl cv_X12_238 eX12_tellTable_1 ⟨Nat.le_of_ble_eq_true rfl, Nat.le_of_ble_eq_true rfl⟩ rfl rfl (Nat.le_of_ble_eq_true rfl) (fun u1 h1 => ?_)
  dsimp only at h1
  rcases e1 : psF s with e | s1
  · rw [e1] at h1
    have hf1 := ns_ex t3 h1.1.1
    have he := psF_er e1
    refine g_ald0 eX12_tellTable_4 ?_
    refine g_callVi (ci := 11) (w_namedD u1 h1.1.2.1 he.1 (by omega) hf1.1) rfl (Nat.le_of_ble_eq_true rfl) (Nat.le_of_ble_eq_true rfl) rfl cv_X12_296 eX12_tellTable_5 ⟨Nat.le_of_ble_eq_true rfl, Nat.le_of_ble_eq_true rfl⟩ rfl rfl (Nat.le_of_ble_eq_true rfl) (fun r u1 h9 => ?_)
    obtain ⟨rfl, rfl⟩ := h9
    refine g_ist1 rfl (Nat.le_of_ble_eq_true rfl) eX12_tellTable_8 ?_
    refine g_ald0 eX12_tellTable_9 ?_
    refine g_iconst (v := 5) (by decide) eX12_tellTable_10 ?_
    refine g_callVv (ci := 11) (w_mustD u1 h1.1.2.1 he.1 (by omega) 5) rfl (Nat.le_of_ble_eq_true rfl) (Nat.le_of_ble_eq_true rfl) rfl cv_X12_289 eX12_tellTable_11 ⟨Nat.le_of_ble_eq_true rfl, Nat.le_of_ble_eq_true rfl⟩ rfl rfl (Nat.le_of_ble_eq_true rfl) (fun u1 h9 => ?_)
    subst h9
    refine g_iconst (v := 0) (by decide) eX12_tellTable_14 ?_
    refine g_ist2 rfl (Nat.le_of_ble_eq_true rfl) eX12_tellTable_15 ?_
    refine g_iconst (v := 1) (by decide) eX12_tellTable_16 ?_
    refine g_ist3 rfl (Nat.le_of_ble_eq_true rfl) eX12_tellTable_17 ?_
    exact hdead u1 e 1 _ _ _ (by rw [← hR, e1]; rfl) he (dD_ex h1.1)
  · rw [e1] at h1
    obtain ⟨f1, x1⟩ := h1
    obtain ⟨rfl, hlt⟩ := psF_eq e1
    have hS1 := SB_fr hS f1
    refine g_ald0 eX12_tellTable_4 ?_
    refine g_callVi (ci := 11) (w_named u1 hS1 x1) rfl (Nat.le_of_ble_eq_true rfl) (Nat.le_of_ble_eq_true rfl) rfl cv_X12_296 eX12_tellTable_5 ⟨Nat.le_of_ble_eq_true rfl, Nat.le_of_ble_eq_true rfl⟩ rfl rfl (Nat.le_of_ble_eq_true rfl) (fun r u2 h2 => ?_)
    rcases e2 : tkF K 2 ((s.1 + 1, s.2) : GS) with e | s2
    · rw [e2] at h2
      obtain ⟨q1, q2, q3⟩ := h2
      have he := tkF_er e2
      refine g_ist1 rfl (Nat.le_of_ble_eq_true rfl) eX12_tellTable_8 ?_
      refine g_ald0 eX12_tellTable_9 ?_
      refine g_iconst (v := 5) (by decide) eX12_tellTable_10 ?_
      refine g_callVv (ci := 11) (w_mustD u2 q1.2.1 he.1 (by omega) 5) rfl (Nat.le_of_ble_eq_true rfl) (Nat.le_of_ble_eq_true rfl) rfl cv_X12_289 eX12_tellTable_11 ⟨Nat.le_of_ble_eq_true rfl, Nat.le_of_ble_eq_true rfl⟩ rfl rfl (Nat.le_of_ble_eq_true rfl) (fun u2 h9 => ?_)
      subst h9
      refine g_iconst (v := 0) (by decide) eX12_tellTable_14 ?_
      refine g_ist2 rfl (Nat.le_of_ble_eq_true rfl) eX12_tellTable_15 ?_
      refine g_iconst (v := 1) (by decide) eX12_tellTable_16 ?_
      refine g_ist3 rfl (Nat.le_of_ble_eq_true rfl) eX12_tellTable_17 ?_
      refine hdead u2 e 1 _ _ _ ?_ he (dD_ex ⟨f1.trans q1.1, q1.2⟩)
      rw [← hR, e1]
      show gb (tkF K 2 (gvF 1 (s.1 + 1) ((s.1 + 1, s.2) : GS))) _ = _
      rw [tkF_er2 (s2 := gvF 1 (s.1 + 1) ((s.1 + 1, s.2) : GS)) e2 rfl]
      rfl
    · rw [e2] at h2
      obtain ⟨f2, rfl, x2⟩ := h2
      have hk2 : K (s.1 + 1) = 2 := (tkF_ok e2).1
      obtain ⟨rfl, hlt2⟩ := psF_eq (tkF_ok e2).2
      have hS2 := SB_fr hS1 f2
      have f12 := f1.trans f2
      refine g_ist1 rfl (Nat.le_of_ble_eq_true rfl) eX12_tellTable_8 ?_
      refine g_ald0 eX12_tellTable_9 ?_
      refine g_iconst (v := 5) (by decide) eX12_tellTable_10 ?_
      refine g_callVv (ci := 11) (w_must u2 hS2.1 x2 58 (by decide) 5 rfl (by decide)) rfl (Nat.le_of_ble_eq_true rfl) (Nat.le_of_ble_eq_true rfl) rfl cv_X12_289 eX12_tellTable_11 ⟨Nat.le_of_ble_eq_true rfl, Nat.le_of_ble_eq_true rfl⟩ rfl rfl (Nat.le_of_ble_eq_true rfl) (fun u3 h3 => ?_)
      have eR2 : R = gb (tkF K 58 ((s.1 + 2, s.2.1, s.2.2 ++ [(1, s.1 + 1)]) : GS)) (fun s3 => gb (numsF K s3) (fun s4 => gb (tkF K 59 s4) .inr)) := by
        rw [← hR, e1]
        show gb (tkF K 2 (gvF 1 (s.1 + 1) ((s.1 + 1, s.2) : GS))) _ = _
        rw [tkF_mk e2 (s2 := gvF 1 (s.1 + 1) ((s.1 + 1, s.2) : GS)) rfl]
        rfl
      rcases e3 : tkF K 58 ((s.1 + 1 + 1, s.2) : GS) with e | s3
      · rw [e3] at h3
        refine g_iconst (v := 0) (by decide) eX12_tellTable_14 ?_
        refine g_ist2 rfl (Nat.le_of_ble_eq_true rfl) eX12_tellTable_15 ?_
        refine g_iconst (v := 1) (by decide) eX12_tellTable_16 ?_
        refine g_ist3 rfl (Nat.le_of_ble_eq_true rfl) eX12_tellTable_17 ?_
        refine hdead u3 e 1 _ _ _ ?_ (tkF_er e3) (dD_ex ⟨f12.trans h3.1.1, h3.1.2⟩)
        rw [eR2, tkF_er2 (s2 := ((s.1 + 2, s.2.1, s.2.2 ++ [(1, s.1 + 1)]) : GS)) e3 rfl]
        rfl
      · rw [e3] at h3
        obtain ⟨f3, x3⟩ := h3
        have hk58 : K (s.1 + 2) = 58 := (tkF_ok e3).1
        obtain ⟨rfl, hlt3⟩ := psF_eq (tkF_ok e3).2
        have f13 := f12.trans f3
        have eR3 : R = gb (numsF K ((s.1 + 3, s.2.1, s.2.2 ++ [(1, s.1 + 1)]) : GS)) (fun s4 => gb (tkF K 59 s4) .inr) := by
          rw [eR2, tkF_mk e3 (s2 := ((s.1 + 2, s.2.1, s.2.2 ++ [(1, s.1 + 1)]) : GS)) rfl]
          rfl
        have hlt9 : s.1 + 1 + 1 < 300 := hlt3
        have hjs : ∀ j, j < s.1 + 1 → K j ≠ 0 ∧ K j ≠ 1 := fun j hj => by
          by_cases e : j = s.1
          · rw [e]; omega
          · exact t2.1.2.2 j (by show j < s.1; omega)
        have hvn := t1.1 (s.1 + 1) (by omega) hjs
        have hWl : W (s.1 + 1) < 1099511627776 := hvn.2.2.2.2.2.2.2 hk2
        generalize hw3 : w3F P W p.1 p.2.2.2.2 (s.1 + 1) = w3
        have x3' : exOK K u3 ((s.1 + 3, s.2), 0, C, w3, Wt) := by rw [← hw3]; exact x3
        generalize htb : p.2.2.2.1.length = tb
        rw [htb] at h4
        -- behind the numbers
        have done : ∀ (u : St) (m : Nat) (x : Int32) (y4 : Option Value), s.1 + 2 + 2 * m ≤ 300 → numsOK K (s.1 + 3) m → tlFr st u → exOK K u ((s.1 + 2 + 2 * m, s.2), 0, C, w3, Wt) → nsOK u (nmL W p.1) → ctM pg u p (n7 gs) → teOK u TL → (∀ i, i < 13 * tb → u.1 50 i = st.1 50 i) → (∀ j, j < m → j < 13 → u.1 50 (13 * tb + j) = nI (V (s.1 + 3 + 2 * j) % bs)) → R = gb (tkF K 59 ((s.1 + 2 + 2 * m, s.2.1, s.2.2 ++ [(1, s.1 + 1)]) : GS)) .inr → G xp l xe (rmd (4)) xs xm xa xb xme xc D cy xad xA (YX12_tellTable.2.1, YX12_tellTable.1.cls, YX12_tellTable.2.2.1, YX12_tellTable.2.2.2) (Pv (tuP K P V W bs pg st p (n7 gs) R (p.2.1, p.2.2.2.1.length + 1, n7 gs))) 101 ([some (.ref 31), some (.int (nI (s.1 + 1))), some (.int (nI m)), some (.int x), y4]) ([]) (u) := by
          intro u m x y4 hm hno hf hx hns hct hte hen1 hen2 hR4
          have sku := skM_fr t1 hf
          refine g_ald0 eX12_tellTable_101 ?_
          refine g_iconst (v := 4) (by decide) eX12_tellTable_102 ?_
          refine g_callVv (ci := 11) (w_must u sku.1 hx 59 (by decide) 4 rfl (by decide)) rfl (Nat.le_of_ble_eq_true rfl) (Nat.le_of_ble_eq_true rfl) rfl cv_X12_289 eX12_tellTable_103 ⟨Nat.le_of_ble_eq_true rfl, Nat.le_of_ble_eq_true rfl⟩ rfl rfl (Nat.le_of_ble_eq_true rfl) (fun u5 h5 => ?_)
          rcases e5 : tkF K 59 ((s.1 + 2 + 2 * m, s.2) : GS) with e | s5
          · rw [e5] at h5
            refine hfin u5 e _ _ _ _ ?_ (tkF_er e5) (dD_tr hf h5.1)
            rw [hR4, tkF_er2 (s2 := ((s.1 + 2 + 2 * m, s.2.1, s.2.2 ++ [(1, s.1 + 1)]) : GS)) e5 rfl]
            rfl
          · rw [e5] at h5
            obtain ⟨f5, x5⟩ := h5
            have hk59 : K (s.1 + 2 + 2 * m) = 59 := (tkF_ok e5).1
            obtain ⟨rfl, hlt5⟩ := psF_eq (tkF_ok e5).2
            have hlt5' : s.1 + 2 + 2 * m < 300 := hlt5
            have eR5 : R = .inr (s.1 + 3 + 2 * m, s.2.1, s.2.2 ++ [(1, s.1 + 1)]) := by
              rw [hR4, tkF_mk e5 (s2 := ((s.1 + 2 + 2 * m, s.2.1, s.2.2 ++ [(1, s.1 + 1)]) : GS)) rfl]
              show Sum.inr (s.1 + 2 + 2 * m + 1, _) = _
              rw [show s.1 + 2 + 2 * m + 1 = s.1 + 3 + 2 * m by omega]
            have hmn : mnyF K (s.1 + 1) = m := by
              unfold mnyF
              refine nums_b (by omega) (by omega) hk58 (show numsOK K (s.1 + 1 + 2) m from hno) ?_
              rw [show s.1 + 1 + 2 + 2 * m - 1 = s.1 + 2 + 2 * m by omega]
              exact hk59
            have hm1 := hno.1
            have ns5 := ns_ex hns f5
            have ct5 := ct_ex hct f5
            have te5 := te_ex hte f5
            have sk5 := skM_fr sku (tl_ex f5)
            have f5t := hf.trans (tl_ex f5)
            -- the name told
            have tail : ∀ (u6 : St) (w6 : Nat × Nat), exFr u5 u6 → exOK K u6 ((s.1 + 3 + 2 * m, s.2), 0, C, w6, Wt) → w6 = (if mnyF K (s.1 + 1) ≠ bs ∨ ¬ prm bs then wrg w3 5 (P (s.1 + 1)) else w3) → G xp l xe (rmd (4)) xs xm xa xb xme xc D cy xad xA (YX12_tellTable.2.1, YX12_tellTable.1.cls, YX12_tellTable.2.2.1, YX12_tellTable.2.2.2) (Pv (tuP K P V W bs pg st p (n7 gs) R (p.2.1, p.2.2.2.1.length + 1, n7 gs))) 135 ([some (.ref 31), some (.int (nI (s.1 + 1))), some (.int (nI m)), some (.int x), y4]) ([]) (u6) := by
              intro u6 w6 f6 x6 hw6
              have ct6 := ct_ex ct5 f6
              have ns6 := ns_ex ns5 f6
              have te6 := te_ex te5 f6
              have f6t := f5t.trans (tl_ex f6)
              have e32 : u6.1 31 32 = nI tb := by rw [← htb]; exact ct6.2.2.1
              have hti : vp_in (nI tb) 4 := vp_in_nI (by omega) (by decide)
              have hn6 : u6.2 37 (s.1 + 1) = lN (W (s.1 + 1)) := by
                rw [f6t.2.2.1 37 (by decide)]; exact hvn.2.2.2.1 hk2
              refine g_ald0 eX12_tellTable_135 ?_
              refine g_getR (ci := 11) (j := 33) rfl (Nat.le_of_ble_eq_true rfl) (Nat.le_of_ble_eq_true rfl) (Nat.le_of_ble_eq_true rfl) rfl rfl fl_X12_67 eX12_tellTable_136 ?_
              refine g_ald0 eX12_tellTable_139 ?_
              refine g_getI (ci := 11) (j := 32) rfl (Nat.le_of_ble_eq_true rfl) (Nat.le_of_ble_eq_true rfl) (Nat.le_of_ble_eq_true rfl) rfl fl_X12_256 eX12_tellTable_140 ?_
              rw [e32]
              refine g_ild2 eX12_tellTable_143 ?_
              refine g_iast rfl (Nat.le_of_ble_eq_true rfl) hti eX12_tellTable_144 ?_
              refine g_ald0 eX12_tellTable_145 ?_
              refine g_ild1 eX12_tellTable_146 ?_
              refine g_iconst (v := 2) (by decide) eX12_tellTable_147 ?_
              refine g_ald0 eX12_tellTable_148 ?_
              refine g_getI (ci := 11) (j := 32) rfl (Nat.le_of_ble_eq_true rfl) (Nat.le_of_ble_eq_true rfl) (Nat.le_of_ble_eq_true rfl) rfl fl_X12_256 eX12_tellTable_149 ?_
              rw [nI_clamp (by omega), show (sI u6 49 tb (nI m)).1 31 32 = nI tb from e32]
              have ns7 : nsOK (sI u6 49 tb (nI m)) (nmL W p.1) := ns6
              refine g_callVv (ci := 11) (w_knows _ ns7 (by rw [nmL_len]; omega) (s.1 + 1) (W (s.1 + 1)) (by omega) hn6 2 (nI tb)) rfl (Nat.le_of_ble_eq_true rfl) (Nat.le_of_ble_eq_true rfl) rfl cv_X12_300 eX12_tellTable_152 ⟨Nat.le_of_ble_eq_true rfl, Nat.le_of_ble_eq_true rfl⟩ rfl rfl (Nat.le_of_ble_eq_true rfl) (fun v2 h8 => ?_)
              have ns8 := ns_kn ns7 (by rw [nmL_len]; omega) (w := W (s.1 + 1)) (s := 2) (a := tb) hWl (by decide) (by omega)
              rw [show nI 2 = (2 : Int32) from rfl, ← h8] at ns8
              have f8 := (f6t.trans (tl_r (k := 49) (j := tb) u6 (nI m) (by omega))).trans (tl_kn (sI u6 49 tb (nI m)) (nmL W p.1).length (lN (W (s.1 + 1))) 2 (nI tb))
              rw [← h8] at f8
              have r8 : ∀ j, j ≠ 28 → v2.1 31 j = u6.1 31 j := fun j hj => by
                rw [h8]
                unfold knS
                rw [sI_1, if_neg (by omega), sI_row (by decide), sI_row (by decide)]
                rfl
              have rr8 : ∀ b, b ≠ 31 → b ≠ 47 → b ≠ 48 → b ≠ 49 → v2.1 b = u6.1 b := fun b h1 h2 h3 h4 => by
                rw [h8]
                unfold knS
                rw [sI_row h1, sI_row h3, sI_row h2]
                exact sI_row h4
              clear h8
              refine g_ald0 eX12_tellTable_155 ?_
              refine g_dup rfl eX12_tellTable_156 ?_
              refine g_getI (ci := 11) (j := 32) rfl (Nat.le_of_ble_eq_true rfl) (Nat.le_of_ble_eq_true rfl) (Nat.le_of_ble_eq_true rfl) rfl fl_X12_256 eX12_tellTable_157 ?_
              rw [show v2.1 31 32 = nI tb by rw [r8 _ (by decide)]; exact e32]
              refine g_iconst (v := 1) (by decide) eX12_tellTable_160 ?_
              refine g_iadd eX12_tellTable_161 ?_
              refine g_putI (ci := 11) (j := 32) rfl rfl (Nat.le_of_ble_eq_true rfl) (Nat.le_of_ble_eq_true rfl) (Nat.le_of_ble_eq_true rfl) rfl fl_X12_256 eX12_tellTable_162 ?_
              rw [show nI tb + 1 = nI (tb + 1) from nI_1 _]
              refine g_vret rfl eX12_tellTable_165 ⟨rfl, ?_⟩
              try dsimp only
              unfold tuP
              rw [eR5]
              have f9 := f8.trans (tl_f (j := 32) _ (nI (tb + 1)) (by omega))
              have eP : pmF K P W bs (s.2.2 ++ [(1, s.1 + 1)]) = (p.1 ++ [(s.1 + 1, 2, tb)], p.2.1, p.2.2.1, p.2.2.2.1 ++ [s.1 + 1], w6) := by
                rw [pmF_app, hp, hw6, ← hw3, ← htb]
                rfl
              have hkp := TKp_name (s2 := ((s.1 + 3 + 2 * m, s.2.1, s.2.2 ++ [(1, s.1 + 1)]) : GS)) t7 rfl (by show s.1 + 3 ≤ s.1 + 3 + 2 * m; omega) rfl (Or.inr rfl)
              refine ⟨f9, gs, C, TL, ⟨skM_fr t1 f9, ⟨Wt, ?_⟩, ?_, ?_, ?_, ?_, hkp⟩, ?_⟩
              · rw [eP]
                exact ex_rows x6 (fun j hj => by rw [sI_1, if_neg (by omega), r8 j (by omega)]) (fun b hb => by rw [sI_row (by omega), rr8 b (by omega) (by omega) (by omega) (by omega)])
              · rw [eP, nmL_app]
                unfold nsOK
                rw [sI_1, if_neg (by omega), sI_row (a := 47) (by decide), sI_row (a := 48) (by decide)]
                exact ns8
              · rw [eP]
                refine ⟨?_, ?_, ?_, ?_⟩
                · rw [sI_row (by decide), rr8 39 (by decide) (by decide) (by decide) (by decide)]; exact ct6.1
                · rw [sI_1, if_neg (by omega), r8 _ (by decide)]; exact ct6.2.1
                · rw [sI_1, if_pos ⟨rfl, rfl⟩]
                  dsimp only
                  rw [List.length_append, htb]; rfl
                · rw [sI_1, if_neg (by omega), r8 _ (by decide)]; exact ct6.2.2.2
              · unfold teOK
                rw [sI_1, if_neg (by omega), sI_row (a := 52) (by decide), sI_row (a := 53) (by decide), sI_row (a := 54) (by decide), sI_row (a := 55) (by decide), r8 36 (by decide), rr8 52 (by decide) (by decide) (by decide) (by decide), rr8 53 (by decide) (by decide) (by decide) (by decide), rr8 54 (by decide) (by decide) (by decide) (by decide), rr8 55 (by decide) (by decide) (by decide) (by decide)]
                exact te6
              · rw [eP]
                intro k hk j hj hj2
                have e50 : ∀ i, (sI v2 31 32 (nI (tb + 1))).1 50 i = u.1 50 i := fun i => by
                  rw [sI_row (by decide), rr8 50 (by decide) (by decide) (by decide) (by decide), f6.1 50 (by decide) (by decide) (by decide) (by decide) (by decide), f5.1 50 (by decide) (by decide) (by decide) (by decide) (by decide)]
                have hk9 : k < (p.2.2.2.1 ++ [s.1 + 1]).length := hk
                rw [List.length_append, List.length_singleton, htb] at hk9
                dsimp only at hj2 ⊢
                rw [getD_app, htb] at hj2 ⊢
                rw [e50]
                by_cases ek : k < tb
                · rw [if_pos ek] at hj2 ⊢
                  rw [hen1 _ (by omega)]
                  exact t6 k (by rw [htb]; exact ek) j hj hj2
                · have ek2 : k = tb := by omega
                  rw [if_neg ek, if_pos ek2, hmn] at hj2
                  rw [if_neg ek, if_pos ek2, ek2, show s.1 + 1 + 2 + 2 * j = s.1 + 3 + 2 * j by omega]
                  exact hen2 j hj2 hj
              · rw [eP]
                dsimp only
                rw [List.length_append, htb]; rfl
            have x5' : exOK K u5 ((s.1 + 3 + 2 * m, s.2), 0, C, w3, Wt) := by
              have h8 : s.1 + 2 + 2 * m + 1 = s.1 + 3 + 2 * m := by omega
              rw [← h8]
              exact x5
            have bad : (mnyF K (s.1 + 1) ≠ bs ∨ ¬ prm bs) → G xp l xe (rmd (4)) xs xm xa xb xme xc D cy xad xA (YX12_tellTable.2.1, YX12_tellTable.1.cls, YX12_tellTable.2.2.1, YX12_tellTable.2.2.2) (Pv (tuP K P V W bs pg st p (n7 gs) R (p.2.1, p.2.2.2.1.length + 1, n7 gs))) 129 ([some (.ref 31), some (.int (nI (s.1 + 1))), some (.int (nI m)), some (.int x), y4]) ([]) (u5) := by
              intro hbad
              refine g_ald0 eX12_tellTable_129 ?_
              refine g_iconst (v := 5) (by decide) eX12_tellTable_130 ?_
              refine g_ild1 eX12_tellTable_131 ?_
              refine g_callVv (ci := 11) (w_wrong u5 sk5.1 x5' 5 (by decide) (s.1 + 1) (by omega) hjs 5 rfl) rfl (Nat.le_of_ble_eq_true rfl) (Nat.le_of_ble_eq_true rfl) rfl cv_X12_292 eX12_tellTable_132 ⟨Nat.le_of_ble_eq_true rfl, Nat.le_of_ble_eq_true rfl⟩ rfl rfl (Nat.le_of_ble_eq_true rfl) (fun u6 h6 => ?_)
              exact tail u6 _ h6.1 h6.2 (by rw [if_pos hbad])
            refine g_ald0 eX12_tellTable_106 ?_
            refine g_getI (ci := 11) (j := 12) rfl (Nat.le_of_ble_eq_true rfl) (Nat.le_of_ble_eq_true rfl) (Nat.le_of_ble_eq_true rfl) rfl fl_X12_217 eX12_tellTable_107 ?_
            rw [x5.2.1]
            refine g_if_le eX12_tellTable_110 (fun hb => ?_) (fun hb => ?_)
            · refine g_ild2 eX12_tellTable_114 ?_
              refine g_ald0 eX12_tellTable_115 ?_
              refine g_getI (ci := 11) (j := 17) rfl (Nat.le_of_ble_eq_true rfl) (Nat.le_of_ble_eq_true rfl) (Nat.le_of_ble_eq_true rfl) rfl fl_X12_174 eX12_tellTable_116 ?_
              rw [sk5.2.1.1]
              refine g_icmp_ne eX12_tellTable_119 (fun hb2 => ?_) (fun hb2 => ?_)
              · rw [nI_eq (by omega) (by omega)] at hb2
                exact bad (Or.inl (by rw [hmn]; exact hb2))
              · rw [nI_eq (by omega) (by omega)] at hb2
                refine g_ald0 eX12_tellTable_122 ?_
                refine g_callVi (ci := 11) (w_mprime u5 sk5.2.1.1 (by omega)) rfl (Nat.le_of_ble_eq_true rfl) (Nat.le_of_ble_eq_true rfl) rfl cv_X12_304 eX12_tellTable_123 ⟨Nat.le_of_ble_eq_true rfl, Nat.le_of_ble_eq_true rfl⟩ rfl rfl (Nat.le_of_ble_eq_true rfl) (fun r u5 h9 => ?_)
                obtain ⟨rfl, rfl⟩ := h9
                refine g_if_ne eX12_tellTable_126 (fun hb3 => ?_) (fun hb3 => ?_)
                · rw [b2_ne0] at hb3
                  exact tail u5 w3 (exFr.refl _) x5' (by rw [if_neg (fun q => q.elim (fun z => z (hmn.trans hb2)) (fun z => z hb3))])
                · rw [b2_eq0] at hb3
                  exact bad (Or.inr hb3)
            · exact absurd (show (0 : Int32) ≤ 0 by decide) hb
        -- a number and what is behind it
        have loop : ∀ (f m : Nat) (u : St) (y4 : Option Value), 400 ≤ f + (s.1 + 3 + 2 * m) → s.1 + 3 + 2 * m ≤ 300 → (∀ j, j < m → K (s.1 + 3 + 2 * j) = 3 ∧ K (s.1 + 3 + 2 * j + 1) = 44) → tlFr st u → exOK K u ((s.1 + 3 + 2 * m, s.2), 0, C, w3, Wt) → nsOK u (nmL W p.1) → ctM pg u p (n7 gs) → teOK u TL → (∀ i, i < 13 * tb → u.1 50 i = st.1 50 i) → (∀ j, j < m → j < 13 → u.1 50 (13 * tb + j) = nI (V (s.1 + 3 + 2 * j) % bs)) → R = gb (numsF K ((s.1 + 3 + 2 * m, s.2.1, s.2.2 ++ [(1, s.1 + 1)]) : GS)) (fun s4 => gb (tkF K 59 s4) .inr) → G xp l xe (rmd (4)) xs xm xa xb xme xc D cy xad xA (YX12_tellTable.2.1, YX12_tellTable.1.cls, YX12_tellTable.2.2.1, YX12_tellTable.2.2.2) (Pv (tuP K P V W bs pg st p (n7 gs) R (p.2.1, p.2.2.2.1.length + 1, n7 gs))) 18 ([some (.ref 31), some (.int (nI (s.1 + 1))), some (.int (nI m)), some (.int 1), y4]) ([]) (u) := by
          intro f
          induction f with
          | zero => intro m u y4 hf9 hm; omega
          | succ f ih =>
            intro m u y4 hf9 hm hpre hf hx hns hct hte hen1 hen2 hR4
            have sku := skM_fr t1 hf
            have hvu := sku.1 (s.1 + 3 + 2 * m) hm hx.1.2.2
            have hin : vp_in (nI (s.1 + 3 + 2 * m)) 303 := vp_in_nI (by omega) (by decide)
            refine g_ild3 eX12_tellTable_18 ?_
            refine g_if_eq eX12_tellTable_19 (fun hb => ?_) (fun hb => ?_)
            · exact absurd hb (by decide)
            · refine g_ald0 eX12_tellTable_22 ?_
              refine g_getI (ci := 11) (j := 12) rfl (Nat.le_of_ble_eq_true rfl) (Nat.le_of_ble_eq_true rfl) (Nat.le_of_ble_eq_true rfl) rfl fl_X12_217 eX12_tellTable_23 ?_
              rw [hx.2.1]
              refine g_if_ne eX12_tellTable_26 (fun hb2 => ?_) (fun hb2 => ?_)
              · exact absurd rfl hb2
              · refine g_ald0 eX12_tellTable_29 ?_
                refine g_getR (ci := 11) (j := 6) rfl (Nat.le_of_ble_eq_true rfl) (Nat.le_of_ble_eq_true rfl) (Nat.le_of_ble_eq_true rfl) rfl rfl fl_X12_23 eX12_tellTable_30 ?_
                refine g_ald0 eX12_tellTable_33 ?_
                refine g_getI (ci := 11) (j := 10) rfl (Nat.le_of_ble_eq_true rfl) (Nat.le_of_ble_eq_true rfl) (Nat.le_of_ble_eq_true rfl) rfl fl_X12_220 eX12_tellTable_34 ?_
                rw [show u.1 31 10 = nI (s.1 + 3 + 2 * m) from hx.1.1]
                refine g_iald rfl (Nat.le_of_ble_eq_true rfl) hin eX12_tellTable_37 ?_
                rw [nI_clamp (by omega)]
                refine g_ist4 rfl (Nat.le_of_ble_eq_true rfl) eX12_tellTable_38 ?_
                refine g_ald0 eX12_tellTable_40 ?_
                refine g_iconst (v := 2) (by decide) eX12_tellTable_41 ?_
                refine g_callVv (ci := 11) (w_must u sku.1 hx 3 (by decide) 2 rfl (by decide)) rfl (Nat.le_of_ble_eq_true rfl) (Nat.le_of_ble_eq_true rfl) rfl cv_X12_289 eX12_tellTable_42 ⟨Nat.le_of_ble_eq_true rfl, Nat.le_of_ble_eq_true rfl⟩ rfl rfl (Nat.le_of_ble_eq_true rfl) (fun u4 h5 => ?_)
                rcases e5 : tkF K 3 ((s.1 + 3 + 2 * m, s.2) : GS) with e | s5
                · rw [e5] at h5
                  have he := tkF_er e5
                  refine g_ald0 eX12_tellTable_45 ?_
                  refine g_getI (ci := 11) (j := 12) rfl (Nat.le_of_ble_eq_true rfl) (Nat.le_of_ble_eq_true rfl) (Nat.le_of_ble_eq_true rfl) rfl fl_X12_217 eX12_tellTable_46 ?_
                  rw [h5.1.2.1]
                  refine g_if_le eX12_tellTable_49 (fun hb3 => ?_) (fun hb3 => ?_)
                  · exact absurd hb3 (nI_nle (by omega) (by omega))
                  · refine g_vret rfl eX12_tellTable_52 ⟨rfl, ?_⟩
                    try dsimp only
                    refine tu_dead (e := e) ?_ he (dD_tr hf h5.1)
                    rw [hR4]
                    unfold numsF
                    rw [tkF_er2 (s2 := ((s.1 + 3 + 2 * m, s.2.1, s.2.2 ++ [(1, s.1 + 1)]) : GS)) e5 rfl]
                    rfl
                · rw [e5] at h5
                  obtain ⟨f5, x5⟩ := h5
                  have hk3 : K (s.1 + 3 + 2 * m) = 3 := (tkF_ok e5).1
                  obtain ⟨rfl, hlt5⟩ := psF_eq (tkF_ok e5).2
                  have hlt5' : s.1 + 3 + 2 * m < 300 := hlt5
                  have hV := hvu.2.2.2.2.2.2.1 hk3
                  have eR5 : R = gb (numsL K 300 ((s.1 + 4 + 2 * m, s.2.1, s.2.2 ++ [(1, s.1 + 1)]) : GS)) (fun s4 => gb (tkF K 59 s4) .inr) := by
                    rw [hR4]
                    unfold numsF
                    rw [tkF_mk e5 (s2 := ((s.1 + 3 + 2 * m, s.2.1, s.2.2 ++ [(1, s.1 + 1)]) : GS)) rfl]
                    show gb (numsL K 300 (s.1 + 3 + 2 * m + 1, _)) _ = _
                    rw [show s.1 + 3 + 2 * m + 1 = s.1 + 4 + 2 * m by omega]
                  rw [numsL_un (by show s.1 + 4 + 2 * m ≤ 300; omega) (by show 1 ≤ s.1 + 4 + 2 * m; omega)] at eR5
                  dsimp only at eR5
                  have f5t := hf.trans (tl_ex f5)
                  have sk5 := skM_fr t1 f5t
                  have ct5 := ct_ex hct f5
                  have e32 : u4.1 31 32 = nI tb := by rw [← htb]; exact ct5.2.2.1
                  -- the number kept, the sign behind it
                  have behind : ∀ u6 : St, tlFr st u6 → exOK K u6 ((s.1 + 4 + 2 * m, s.2), 0, C, w3, Wt) → nsOK u6 (nmL W p.1) → ctM pg u6 p (n7 gs) → teOK u6 TL → (∀ i, i < 13 * tb → u6.1 50 i = st.1 50 i) → (∀ j, j < m + 1 → j < 13 → u6.1 50 (13 * tb + j) = nI (V (s.1 + 3 + 2 * j) % bs)) → G xp l xe (rmd (4)) xs xm xa xb xme xc D cy xad xA (YX12_tellTable.2.1, YX12_tellTable.1.cls, YX12_tellTable.2.2.1, YX12_tellTable.2.2.2) (Pv (tuP K P V W bs pg st p (n7 gs) R (p.2.1, p.2.2.2.1.length + 1, n7 gs))) 80 ([some (.ref 31), some (.int (nI (s.1 + 1))), some (.int (nI m)), some (.int 1), some (.int (u.1 36 (s.1 + 3 + 2 * m)))]) ([]) (u6) := by
                    intro u6 g1 g2 g3 g4 g5 g6 g7
                    have sk6 := skM_fr t1 g1
                    have hv6 := sk6.1 (s.1 + 4 + 2 * m) (by omega) g2.1.2.2
                    refine g_inc2 rfl (Nat.le_of_ble_eq_true rfl) rfl eX12_tellTable_80 ?_
                    refine g_ald0 eX12_tellTable_83 ?_
                    refine g_bipush (v := 12) (by decide) eX12_tellTable_84 ?_
                    rw [inc1]
                    refine g_callVi (ci := 11) (w_is u6 sk6.1 g2 12 (by decide)) rfl (Nat.le_of_ble_eq_true rfl) (Nat.le_of_ble_eq_true rfl) rfl cv_X12_235 eX12_tellTable_86 ⟨Nat.le_of_ble_eq_true rfl, Nat.le_of_ble_eq_true rfl⟩ rfl rfl (Nat.le_of_ble_eq_true rfl) (fun r u6 h9 => ?_)
                    obtain ⟨rfl, rfl⟩ := h9
                    by_cases hc : K (s.1 + 4 + 2 * m) = 44
                    · rw [if_pos hc] at eR5
                      rw [show b2 (mkK (K (((s.1 + 4 + 2 * m, s.2) : GS), 0, C, w3, Wt).1.1) = 12) = 1 from (b2_t ((mkK_is hv6.2.2.2.2.1 (b := 44) (k := 12) (by decide) rfl).mpr hc)).symm]
                      refine g_ist3 rfl (Nat.le_of_ble_eq_true rfl) eX12_tellTable_89 ?_
                      refine g_ild3 eX12_tellTable_90 ?_
                      refine g_if_eq eX12_tellTable_91 (fun hb5 => ?_) (fun hb5 => ?_)
                      · exact absurd hb5 (by decide)
                      · refine g_ald0 eX12_tellTable_94 ?_
                        refine g_callVv (ci := 11) (w_goesOn u6 sk6.1 g2 (by show K (s.1 + 4 + 2 * m) ≠ 0 ∧ K (s.1 + 4 + 2 * m) ≠ 1; omega)) rfl (Nat.le_of_ble_eq_true rfl) (Nat.le_of_ble_eq_true rfl) rfl cv_X12_238 eX12_tellTable_95 ⟨Nat.le_of_ble_eq_true rfl, Nat.le_of_ble_eq_true rfl⟩ rfl rfl (Nat.le_of_ble_eq_true rfl) (fun u7 h7 => ?_)
                        dsimp only at h7
                        refine g_goto eX12_tellTable_98 ?_
                        rcases e7 : psF ((s.1 + 4 + 2 * m, s.2) : GS) with e | s7
                        · rw [e7] at h7
                          refine hdead u7 e 1 _ _ _ ?_ (psF_er e7) (dD_tr g1 h7.1)
                          rw [eR5, psF_er2 (s2 := ((s.1 + 4 + 2 * m, s.2.1, s.2.2 ++ [(1, s.1 + 1)]) : GS)) e7 rfl]
                          rfl
                        · rw [e7] at h7
                          obtain ⟨f7, x7⟩ := h7
                          obtain ⟨rfl, hlt7⟩ := psF_eq e7
                          have hlt7' : s.1 + 4 + 2 * m < 300 := hlt7
                          have e9 : s.1 + 4 + 2 * m + 1 = s.1 + 3 + 2 * (m + 1) := by omega
                          refine ih (m + 1) u7 _ (by omega) (by omega) (fun j hj => ?_) (g1.trans (tl_ex f7)) ?_ (ns_ex g3 f7) (ct_ex g4 f7) (te_ex g5 f7) (fun i hi => ?_) (fun j hj hj2 => ?_) ?_
                          · by_cases ej : j = m
                            · rw [ej]
                              exact ⟨hk3, by rw [show s.1 + 3 + 2 * m + 1 = s.1 + 4 + 2 * m by omega]; exact hc⟩
                            · exact hpre j (by omega)
                          · rw [← e9]; exact x7
                          · rw [f7.1 50 (by decide) (by decide) (by decide) (by decide) (by decide)]; exact g6 i hi
                          · rw [f7.1 50 (by decide) (by decide) (by decide) (by decide) (by decide)]; exact g7 j hj hj2
                          · rw [eR5, psF_mk (s := ((s.1 + 4 + 2 * m, s.2.1, s.2.2 ++ [(1, s.1 + 1)]) : GS)) hlt7', ← e9]
                            rfl
                    · rw [if_neg hc] at eR5
                      rw [show b2 (mkK (K (((s.1 + 4 + 2 * m, s.2) : GS), 0, C, w3, Wt).1.1) = 12) = 0 from (b2_f (fun z => hc ((mkK_is hv6.2.2.2.2.1 (b := 44) (k := 12) (by decide) rfl).mp z))).symm]
                      refine g_ist3 rfl (Nat.le_of_ble_eq_true rfl) eX12_tellTable_89 ?_
                      refine g_ild3 eX12_tellTable_90 ?_
                      refine g_if_eq eX12_tellTable_91 (fun hb5 => ?_) (fun hb5 => ?_)
                      · refine g_goto eX12_tellTable_98 ?_
                        refine g_ild3 eX12_tellTable_18 ?_
                        refine g_if_eq eX12_tellTable_19 (fun hb6 => ?_) (fun hb6 => ?_)
                        · have e9 : s.1 + 4 + 2 * m = s.1 + 2 + 2 * (m + 1) := by omega
                          refine done u6 (m + 1) 0 _ (by omega) ⟨by omega, fun j hj => ?_, fun j hj => (hpre j (by omega)).2⟩ g1 ?_ g3 g4 g5 g6 g7 ?_
                          · by_cases ej : j = m
                            · rw [ej]; exact hk3
                            · exact (hpre j (by omega)).1
                          · rw [← e9]; exact g2
                          · rw [← e9]; exact eR5
                        · exact absurd rfl hb6
                      · exact absurd rfl hb5
                  have x5' : exOK K u4 ((s.1 + 4 + 2 * m, s.2), 0, C, w3, Wt) := by
                    have h8 : s.1 + 3 + 2 * m + 1 = s.1 + 4 + 2 * m := by omega
                    rw [← h8]
                    exact x5
                  have n50 : ∀ i, u4.1 50 i = u.1 50 i := fun i => by rw [f5.1 50 (by decide) (by decide) (by decide) (by decide) (by decide)]
                  refine g_ald0 eX12_tellTable_45 ?_
                  refine g_getI (ci := 11) (j := 12) rfl (Nat.le_of_ble_eq_true rfl) (Nat.le_of_ble_eq_true rfl) (Nat.le_of_ble_eq_true rfl) rfl fl_X12_217 eX12_tellTable_46 ?_
                  rw [x5.2.1]
                  refine g_if_le eX12_tellTable_49 (fun hb3 => ?_) (fun hb3 => ?_)
                  · refine g_ild2 eX12_tellTable_53 ?_
                    refine g_bipush (v := 13) (by decide) eX12_tellTable_54 ?_
                    refine g_icmp_ge eX12_tellTable_56 (fun hb4 => ?_) (fun hb4 => ?_)
                    · rw [show (13 : Int32) = nI 13 from rfl, nI_leI (by omega) (by omega)] at hb4
                      refine behind u4 f5t x5' (ns_ex hns f5) ct5 (te_ex hte f5) (fun i hi => by rw [n50]; exact hen1 i hi) (fun j hj hj2 => ?_)
                      rw [n50]
                      exact hen2 j (by omega) hj2
                    · rw [show (13 : Int32) = nI 13 from rfl, nI_leI (by omega) (by omega)] at hb4
                      have hne : ¬ nI bs = 0 := nI_ne0 (by omega) (by omega)
                      have b9 := behind (sI u4 50 (13 * tb + m) (nI (V (s.1 + 3 + 2 * m) % bs)))
                      rw [hvu.2.2.1 hk3] at b9 ⊢
                      refine g_ald0 eX12_tellTable_59 ?_
                      refine g_getR (ci := 11) (j := 34) rfl (Nat.le_of_ble_eq_true rfl) (Nat.le_of_ble_eq_true rfl) (Nat.le_of_ble_eq_true rfl) rfl rfl fl_X12_70 eX12_tellTable_60 ?_
                      refine g_bipush (v := 13) (by decide) eX12_tellTable_63 ?_
                      refine g_ald0 eX12_tellTable_65 ?_
                      refine g_getI (ci := 11) (j := 32) rfl (Nat.le_of_ble_eq_true rfl) (Nat.le_of_ble_eq_true rfl) (Nat.le_of_ble_eq_true rfl) rfl fl_X12_256 eX12_tellTable_66 ?_
                      rw [e32]
                      refine g_imul eX12_tellTable_69 ?_
                      refine g_ild2 eX12_tellTable_70 ?_
                      refine g_iadd eX12_tellTable_71 ?_
                      refine g_ild4 eX12_tellTable_72 ?_
                      refine g_ald0 eX12_tellTable_74 ?_
                      refine g_getI (ci := 11) (j := 17) rfl (Nat.le_of_ble_eq_true rfl) (Nat.le_of_ble_eq_true rfl) (Nat.le_of_ble_eq_true rfl) rfl fl_X12_174 eX12_tellTable_75 ?_
                      rw [sk5.2.1.1]
                      refine g_irem hne eX12_tellTable_78 ?_
                      rw [show (13 : Int32) = nI 13 from rfl, show nI 13 * nI tb = nI (13 * tb) from (Int32.ofNat_mul _ _).symm, nI_add, pk_rem (a := V (s.1 + 3 + 2 * m)) (d := bs) (by omega) (by omega) (by omega)]
                      refine g_iast rfl (Nat.le_of_ble_eq_true rfl) (vp_in_nI (n := 13 * tb + m) (N := 52) (by omega) (by decide)) eX12_tellTable_79 ?_
                      rw [nI_clamp (by omega)]
                      have ns5 := ns_ex hns f5
                      have te5 := te_ex hte f5
                      refine b9 (f5t.trans (tl_r _ _ (by omega))) (ex_rows x5' (fun j _ => by rw [sI_row (by decide)]) (fun a ha => by rw [sI_row (by omega)])) ns5 ct5 te5 (fun i hi => ?_) (fun j hj hj2 => ?_)
                      · rw [sI_at, if_neg (by omega), n50]; exact hen1 i hi
                      · rw [sI_at]
                        by_cases ej : j = m
                        · rw [if_pos (by omega), ej]
                        · rw [if_neg (by omega), n50]; exact hen2 j (by omega) hj2
                  · exact absurd (show (0 : Int32) ≤ 0 by decide) hb3
        subst htb
        refine g_iconst (v := 0) (by decide) eX12_tellTable_14 ?_
        refine g_ist2 rfl (Nat.le_of_ble_eq_true rfl) eX12_tellTable_15 ?_
        refine g_iconst (v := 1) (by decide) eX12_tellTable_16 ?_
        refine g_ist3 rfl (Nat.le_of_ble_eq_true rfl) eX12_tellTable_17 ?_
        exact loop 400 0 u3 none (by omega) (by omega) (fun j hj => absurd hj (Nat.not_lt_zero _)) (tl_ex f13) x3' (ns_ex t3 f13) (ct_ex t4 f13) (te_ex t5 f13) (fun i _ => by rw [f13.1 50 (by decide) (by decide) (by decide) (by decide) (by decide)]) (fun j hj => absurd hj (Nat.not_lt_zero _)) eR3
end TELT
