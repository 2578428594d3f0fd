/-! THE MODEL PARSES: named, knows, ends -/
theorem wrg_2 (w : Nat × Nat) (k p : Nat) (hk : k ≠ 0) : wrg (wrg w k p) k p = wrg w k p := by
  by_cases q : w.1 ≠ 0 ∧ (w.2 < p ∨ p = w.2 ∧ w.1 ≤ k)
  · have e : wrg w k p = w := if_pos q
    rw [e, e]
  · have e : wrg w k p = (k, p) := if_neg q
    rw [e]
    exact if_pos ⟨hk, Or.inr ⟨rfl, Nat.le_refl _⟩⟩
section TELM
variable {l : Launch} {D : va_G} {cy : Nat → ClassId} {K P V W : Nat → Nat} {bs : Nat}
def ndP (K P W : Nat → Nat) (Nt : List MN) (st : St) (A : EA) (R : GR) (r : Int32) (u : St) : Prop := match R with
  | .inl e => exD P st u e ∧ u.1 31 49 = st.1 31 49 ∧ r = nI A.1.1
  | .inr s => exFr st u ∧ r = nI A.1.1 ∧ exOK K u (s, A.2.1, A.2.2.1, w3F P W Nt A.2.2.2.1 A.1.1, A.2.2.2.2)
theorem w_named (st : St) {A : EA} {Nt : List MN} (hS : SB K P V W (nmL W Nt) bs st) (h : exOK K st A) : Mi l D cy 3 YX12_named [.ref 31] st (ndP K P W Nt st A (tkF K 2 A.1)) := by
  have hv := hS.1 A.1.1 h.1.2.1 h.1.2.2
  have ht := h.1.1
  have h300 := h.1.2.1
  generalize eT : tkF K 2 A.1 = R
  refine M.ofG [some (.ref 31), none, none] (by decide) (Nat.le_of_ble_eq_true rfl) rfl ?_
  intro xp xe xs xm xa xb xme xc xad xA
  refine g_ald0 eX12_named_0 ?_
  refine g_getI (ci := 11) (j := 10) rfl (Nat.le_of_ble_eq_true rfl) (Nat.le_of_ble_eq_true rfl) (Nat.le_of_ble_eq_true rfl) rfl fl_X12_220 eX12_named_1 ?_
  rw [ht]
  refine g_ist1 rfl (Nat.le_of_ble_eq_true rfl) eX12_named_4 ?_
  refine g_ald0 eX12_named_5 ?_
  refine g_iconst (v := 1) (by decide) eX12_named_6 ?_
  refine g_callVv (ci := 11) (w_must st hS.1 h 2 (by decide) 1 rfl (by decide)) rfl (Nat.le_of_ble_eq_true rfl) (Nat.le_of_ble_eq_true rfl) rfl cv_X12_289 eX12_named_7 ⟨Nat.le_of_ble_eq_true rfl, Nat.le_of_ble_eq_true rfl⟩ rfl rfl (Nat.le_of_ble_eq_true rfl) (fun u h9 => ?_)
  rw [eT] at h9
  rcases R with e | s
  · obtain ⟨⟨f1, f2, f3⟩, f4⟩ := h9
    have he := tkF_er eT
    have hSu := SB_fr hS f1
    obtain ⟨n1, n2, n3⟩ := hSu.2.1
    refine g_iconst (v := 0) (by decide) eX12_named_10 ?_
    refine g_ist2 rfl (Nat.le_of_ble_eq_true rfl) eX12_named_11 ?_
    refine g_ild2 eX12_named_12 ?_
    refine g_ald0 eX12_named_13 ?_
    refine g_getI (ci := 11) (j := 28) rfl (Nat.le_of_ble_eq_true rfl) (Nat.le_of_ble_eq_true rfl) (Nat.le_of_ble_eq_true rfl) rfl fl_X12_253 eX12_named_14 ?_
    rw [n1]
    refine g_icmp_ge eX12_named_17 (fun hb => ?_) (fun hb => ?_)
    · refine g_ild1 eX12_named_55 ?_
      refine g_iret rfl eX12_named_56 ⟨_, rfl, ?_⟩
      try dsimp only
      exact ⟨⟨f1, f2, f3⟩, f4, rfl⟩
    · refine g_ald0 eX12_named_20 ?_
      refine g_getI (ci := 11) (j := 12) rfl (Nat.le_of_ble_eq_true rfl) (Nat.le_of_ble_eq_true rfl) (Nat.le_of_ble_eq_true rfl) rfl fl_X12_217 eX12_named_21 ?_
      rw [f2]
      refine g_if_ne eX12_named_24 (fun hb2 => ?_) (fun hb2 => ?_)
      · refine g_ild1 eX12_named_55 ?_
        refine g_iret rfl eX12_named_56 ⟨_, rfl, ?_⟩
        try dsimp only
        exact ⟨⟨f1, f2, f3⟩, f4, rfl⟩
      · exact absurd hb2 (nI_ne0 (by omega) (by omega))
  · obtain ⟨hf, h2⟩ := h9
    have hk2 := (tkF_ok eT).1
    have hW := hv.2.2.2.2.2.2.2 hk2
    have hin : vp_in (nI A.1.1) 303 := vp_in_nI (by omega) (by decide)
    have hcl : (nI A.1.1).toNatClampNeg = A.1.1 := nI_clamp (by omega)
    have loop : ∀ (f a : Nat) (w : Nat × Nat) (u : St), a + f = Nt.length → exFr st u → exOK K u (s, A.2.1, A.2.2.1, w, A.2.2.2.2) → (w = A.2.2.2.1 ∧ (∀ j, j < a → W (Nt.getD j (0, 0, 0)).1 ≠ W A.1.1) ∨ w = wrg A.2.2.2.1 3 (P A.1.1) ∧ ∃ j, j < Nt.length ∧ W (Nt.getD j (0, 0, 0)).1 = W A.1.1) → G xp l xe (rmd (3)) xs xm xa xb xme xc D cy xad xA (YX12_named.2.1, YX12_named.1.cls, YX12_named.2.2.1, YX12_named.2.2.2) (Pi (ndP K P W Nt st A (Sum.inr s))) 12 ([some (.ref 31), some (.int (nI A.1.1)), some (.int (nI a))]) ([]) (u) := by
      intro f
      induction f with
      | zero =>
        intro a w u ha hf h2 hw
        have hSu := SB_fr hS hf
        obtain ⟨n1, n2, n3⟩ := hSu.2.1
        rw [nmL_len] at n1 n2
        refine g_ild2 eX12_named_12 ?_
        refine g_ald0 eX12_named_13 ?_
        refine g_getI (ci := 11) (j := 28) rfl (Nat.le_of_ble_eq_true rfl) (Nat.le_of_ble_eq_true rfl) (Nat.le_of_ble_eq_true rfl) rfl fl_X12_253 eX12_named_14 ?_
        rw [n1]
        refine g_icmp_ge eX12_named_17 (fun hb => ?_) (fun hb => ?_)
        · refine g_ild1 eX12_named_55 ?_
          refine g_iret rfl eX12_named_56 ⟨_, rfl, ?_⟩
          try dsimp only
          refine ⟨hf, rfl, ?_⟩
          have ew : w3F P W Nt A.2.2.2.1 A.1.1 = w := by
            unfold w3F
            rcases hw with ⟨q1, q2⟩ | ⟨q1, q2⟩
            · rw [if_neg (fun z => by obtain ⟨j, hj, e⟩ := dupW_iff.mp z; exact q2 j (by omega) e), q1]
            · rw [if_pos (dupW_iff.mpr q2), q1]
          rw [ew]
          exact h2
        · exact absurd (nI_le (by omega) (by omega)) hb
      | succ f ih =>
        intro a w u ha hf h2 hw
        have hSu := SB_fr hS hf
        obtain ⟨n1, n2, n3⟩ := hSu.2.1
        rw [nmL_len] at n1 n2
        have na := n3 a (by rw [nmL_len]; omega)
        rw [nmL_at W Nt (by omega)] at na
        have hN := (hSu.1 A.1.1 h300 h.1.2.2).2.2.2.1 hk2
        refine g_ild2 eX12_named_12 ?_
        refine g_ald0 eX12_named_13 ?_
        refine g_getI (ci := 11) (j := 28) rfl (Nat.le_of_ble_eq_true rfl) (Nat.le_of_ble_eq_true rfl) (Nat.le_of_ble_eq_true rfl) rfl fl_X12_253 eX12_named_14 ?_
        rw [n1]
        refine g_icmp_ge eX12_named_17 (fun hb => ?_) (fun hb => ?_)
        · exact absurd hb (nI_ge (by omega) (by omega))
        · refine g_ald0 eX12_named_20 ?_
          refine g_getI (ci := 11) (j := 12) rfl (Nat.le_of_ble_eq_true rfl) (Nat.le_of_ble_eq_true rfl) (Nat.le_of_ble_eq_true rfl) rfl fl_X12_217 eX12_named_21 ?_
          rw [h2.2.1]
          refine g_if_ne eX12_named_24 (fun hb2 => ?_) (fun hb2 => ?_)
          · exact absurd rfl hb2
          · refine g_ald0 eX12_named_27 ?_
            refine g_getR (ci := 11) (j := 29) rfl (Nat.le_of_ble_eq_true rfl) (Nat.le_of_ble_eq_true rfl) (Nat.le_of_ble_eq_true rfl) rfl rfl fl_X12_58 eX12_named_28 ?_
            refine g_ild2 eX12_named_31 ?_
            refine g_lald rfl (Nat.le_of_ble_eq_true rfl) (vp_in_nI (n := a) (N := 300) (by omega) (by decide)) eX12_named_32 ?_
            rw [nI_clamp (by omega), na.1]
            refine g_ald0 eX12_named_33 ?_
            refine g_getR (ci := 11) (j := 7) rfl (Nat.le_of_ble_eq_true rfl) (Nat.le_of_ble_eq_true rfl) (Nat.le_of_ble_eq_true rfl) rfl rfl fl_X12_26 eX12_named_34 ?_
            refine g_ild1 eX12_named_37 ?_
            refine g_lald rfl (Nat.le_of_ble_eq_true rfl) hin eX12_named_38 ?_
            rw [hcl, hN]
            refine g_lcmp eX12_named_39 ?_
            have hna := na.2.2.2.1
            refine g_if_ne eX12_named_40 (fun hb3 => ?_) (fun hb3 => ?_)
            · rw [lg_cmp_eq, pk_lEQ (by omega) (by omega)] at hb3
              refine g_inc2 rfl (Nat.le_of_ble_eq_true rfl) rfl eX12_named_49 ?_
              refine g_goto eX12_named_52 ?_
              rw [inc1]
              refine ih (a + 1) w u (by omega) hf h2 ?_
              rcases hw with ⟨q1, q2⟩ | ⟨q1, q2⟩
              · refine Or.inl ⟨q1, fun j hj => ?_⟩
                by_cases e : j = a
                · rw [e]; exact hb3
                · exact q2 j (by omega)
              · exact Or.inr ⟨q1, q2⟩
            · rw [lg_cmp_eq, pk_lEQ (by omega) (by omega)] at hb3
              refine g_ald0 eX12_named_43 ?_
              refine g_iconst (v := 3) (by decide) eX12_named_44 ?_
              refine g_ild1 eX12_named_45 ?_
              refine g_callVv (ci := 11) (w_wrong u hSu.1 h2 3 (by decide) A.1.1 h300 h.1.2.2 3 rfl) rfl (Nat.le_of_ble_eq_true rfl) (Nat.le_of_ble_eq_true rfl) rfl cv_X12_292 eX12_named_46 ⟨Nat.le_of_ble_eq_true rfl, Nat.le_of_ble_eq_true rfl⟩ rfl rfl (Nat.le_of_ble_eq_true rfl) (fun u2 h3 => ?_)
              refine g_inc2 rfl (Nat.le_of_ble_eq_true rfl) rfl eX12_named_49 ?_
              refine g_goto eX12_named_52 ?_
              rw [inc1]
              refine ih (a + 1) _ u2 (by omega) (hf.trans h3.1) h3.2 (Or.inr ⟨?_, a, by omega, hb3⟩)
              rcases hw with ⟨q1, q2⟩ | ⟨q1, q2⟩
              · show wrg w 3 (P A.1.1) = _
                rw [q1]
              · show wrg w 3 (P A.1.1) = _
                rw [q1, wrg_2 _ _ _ (by decide)]
    refine g_iconst (v := 0) (by decide) eX12_named_10 ?_
    refine g_ist2 rfl (Nat.le_of_ble_eq_true rfl) eX12_named_11 ?_
    exact loop Nt.length 0 A.2.2.2.1 u (by omega) hf h2 (Or.inl ⟨rfl, fun j hj => absurd hj (Nat.not_lt_zero _)⟩)
theorem w_namedD (st : St) {f n : Nat} (hf : st.1 31 12 = nI f) (h0 : 1 ≤ f) (h9 : f < 10) (hn : st.1 31 28 = nI n) : Mi l D cy 3 YX12_named [.ref 31] st (fun r u => u = st ∧ r = st.1 31 10) := by
  refine M.ofG [some (.ref 31), none, none] (by decide) (Nat.le_of_ble_eq_true rfl) rfl ?_
  intro xp xe xs xm xa xb xme xc xad xA
  refine g_ald0 eX12_named_0 ?_
  refine g_getI (ci := 11) (j := 10) rfl (Nat.le_of_ble_eq_true rfl) (Nat.le_of_ble_eq_true rfl) (Nat.le_of_ble_eq_true rfl) rfl fl_X12_220 eX12_named_1 ?_
  refine g_ist1 rfl (Nat.le_of_ble_eq_true rfl) eX12_named_4 ?_
  refine g_ald0 eX12_named_5 ?_
  refine g_iconst (v := 1) (by decide) eX12_named_6 ?_
  refine g_callVv (ci := 11) (w_mustD st hf h0 h9 1) rfl (Nat.le_of_ble_eq_true rfl) (Nat.le_of_ble_eq_true rfl) rfl cv_X12_289 eX12_named_7 ⟨Nat.le_of_ble_eq_true rfl, Nat.le_of_ble_eq_true rfl⟩ rfl rfl (Nat.le_of_ble_eq_true rfl) (fun st h => ?_)
  subst h
  refine g_iconst (v := 0) (by decide) eX12_named_10 ?_
  refine g_ist2 rfl (Nat.le_of_ble_eq_true rfl) eX12_named_11 ?_
  refine g_ild2 eX12_named_12 ?_
  refine g_ald0 eX12_named_13 ?_
  refine g_getI (ci := 11) (j := 28) rfl (Nat.le_of_ble_eq_true rfl) (Nat.le_of_ble_eq_true rfl) (Nat.le_of_ble_eq_true rfl) rfl fl_X12_253 eX12_named_14 ?_
  rw [hn]
  refine g_icmp_ge eX12_named_17 (fun hb => ?_) (fun hb => ?_)
  · refine g_ild1 eX12_named_55 ?_
    exact g_iret rfl eX12_named_56 ⟨_, rfl, ⟨rfl, rfl⟩⟩
  · refine g_ald0 eX12_named_20 ?_
    refine g_getI (ci := 11) (j := 12) rfl (Nat.le_of_ble_eq_true rfl) (Nat.le_of_ble_eq_true rfl) (Nat.le_of_ble_eq_true rfl) rfl fl_X12_217 eX12_named_21 ?_
    rw [hf]
    refine g_if_ne eX12_named_24 (fun hb2 => ?_) (fun hb2 => ?_)
    · refine g_ild1 eX12_named_55 ?_
      exact g_iret rfl eX12_named_56 ⟨_, rfl, ⟨rfl, rfl⟩⟩
    · exact absurd hb2 (nI_ne0 (by omega) (by omega))
theorem w_expressionD (st : St) {f : Nat} (hf : st.1 31 12 = nI f) (h0 : 1 ≤ f) (h9 : f < 10) : Mv l D cy 4 YX12_expression [.ref 31] st (fun u => u = sI st 31 49 0) := by
  refine M.ofG [some (.ref 31), none, none, none] (by decide) (Nat.le_of_ble_eq_true rfl) rfl ?_
  intro xp xe xs xm xa xb xme xc xad xA
  refine g_ald0 eX12_expression_0 ?_
  refine g_iconst (v := 0) (by decide) eX12_expression_1 ?_
  refine g_putI (ci := 11) (j := 49) rfl rfl (Nat.le_of_ble_eq_true rfl) (Nat.le_of_ble_eq_true rfl) (Nat.le_of_ble_eq_true rfl) rfl fl_X12_314 eX12_expression_2 ?_
  refine g_iconst (v := 1) (by decide) eX12_expression_5 ?_
  refine g_ist1 rfl (Nat.le_of_ble_eq_true rfl) eX12_expression_6 ?_
  refine g_ild1 eX12_expression_7 ?_
  refine g_if_eq eX12_expression_8 (fun hb => ?_) (fun hb => ?_)
  · exact absurd hb (by decide)
  · refine g_ald0 eX12_expression_11 ?_
    refine g_getI (ci := 11) (j := 12) rfl (Nat.le_of_ble_eq_true rfl) (Nat.le_of_ble_eq_true rfl) (Nat.le_of_ble_eq_true rfl) rfl fl_X12_217 eX12_expression_12 ?_
    rw [show (sI st 31 49 0).1 31 12 = nI f by rw [sI_1, if_neg (by omega)]; exact hf]
    refine g_if_ne eX12_expression_15 (fun hb2 => ?_) (fun hb2 => ?_)
    · exact g_vret rfl eX12_expression_164 ⟨rfl, rfl⟩
    · exact absurd hb2 (nI_ne0 (by omega) (by omega))
theorem w_mprime (st : St) (hb : st.1 31 17 = nI bs) (h9 : bs < 100) : Mi l D cy 0 YX12_isPrime [.ref 31] st (fun r u => u = st ∧ r = b2 (prm bs)) := by
  have hq : (st.1 31 17).toInt = bs := by rw [hb, nI_toInt (by omega)]
  refine M.ofG [some (.ref 31)] (by decide) (Nat.le_of_ble_eq_true rfl) rfl ?_
  intro xp xe xs xm xa xb xme xc xad xA
  refine g_ald0 eX12_isPrime_0 ?_
  refine g_getI (ci := 11) (j := 17) rfl (Nat.le_of_ble_eq_true rfl) (Nat.le_of_ble_eq_true rfl) (Nat.le_of_ble_eq_true rfl) rfl fl_X12_174 eX12_isPrime_1 ?_
  refine g_iconst (v := 2) (by decide) eX12_isPrime_4 ?_
  refine g_icmp_eq eX12_isPrime_5 (fun hb5 => ?_) (fun hb5 => ?_)
  · try simp only [fa_lt, fa_le, fa_eq, Int32.reduceToInt] at hb5
    refine g_iconst (v := 1) (by decide) eX12_isPrime_51 ?_
    refine g_goto eX12_isPrime_52 ?_
    refine g_zret (ty := .boolean) rfl (by first | rfl | assumption) eX12_isPrime_56 ⟨_, rfl, ?_⟩
    try dsimp only
    first | exact ⟨rfl, b2_t (by omega)⟩ | exact ⟨rfl, b2_f (by omega)⟩
  · try simp only [fa_lt, fa_le, fa_eq, Int32.reduceToInt] at hb5
    refine g_ald0 eX12_isPrime_8 ?_
    refine g_getI (ci := 11) (j := 17) rfl (Nat.le_of_ble_eq_true rfl) (Nat.le_of_ble_eq_true rfl) (Nat.le_of_ble_eq_true rfl) rfl fl_X12_174 eX12_isPrime_9 ?_
    refine g_iconst (v := 3) (by decide) eX12_isPrime_12 ?_
    refine g_icmp_eq eX12_isPrime_13 (fun hb13 => ?_) (fun hb13 => ?_)
    · try simp only [fa_lt, fa_le, fa_eq, Int32.reduceToInt] at hb13
      refine g_iconst (v := 1) (by decide) eX12_isPrime_51 ?_
      refine g_goto eX12_isPrime_52 ?_
      refine g_zret (ty := .boolean) rfl (by first | rfl | assumption) eX12_isPrime_56 ⟨_, rfl, ?_⟩
      try dsimp only
      first | exact ⟨rfl, b2_t (by omega)⟩ | exact ⟨rfl, b2_f (by omega)⟩
    · try simp only [fa_lt, fa_le, fa_eq, Int32.reduceToInt] at hb13
      refine g_ald0 eX12_isPrime_16 ?_
      refine g_getI (ci := 11) (j := 17) rfl (Nat.le_of_ble_eq_true rfl) (Nat.le_of_ble_eq_true rfl) (Nat.le_of_ble_eq_true rfl) rfl fl_X12_174 eX12_isPrime_17 ?_
      refine g_iconst (v := 5) (by decide) eX12_isPrime_20 ?_
      refine g_icmp_eq eX12_isPrime_21 (fun hb21 => ?_) (fun hb21 => ?_)
      · try simp only [fa_lt, fa_le, fa_eq, Int32.reduceToInt] at hb21
        refine g_iconst (v := 1) (by decide) eX12_isPrime_51 ?_
        refine g_goto eX12_isPrime_52 ?_
        refine g_zret (ty := .boolean) rfl (by first | rfl | assumption) eX12_isPrime_56 ⟨_, rfl, ?_⟩
        try dsimp only
        first | exact ⟨rfl, b2_t (by omega)⟩ | exact ⟨rfl, b2_f (by omega)⟩
      · try simp only [fa_lt, fa_le, fa_eq, Int32.reduceToInt] at hb21
        refine g_ald0 eX12_isPrime_24 ?_
        refine g_getI (ci := 11) (j := 17) rfl (Nat.le_of_ble_eq_true rfl) (Nat.le_of_ble_eq_true rfl) (Nat.le_of_ble_eq_true rfl) rfl fl_X12_174 eX12_isPrime_25 ?_
        refine g_bipush (v := 7) (by decide) eX12_isPrime_28 ?_
        refine g_icmp_eq eX12_isPrime_30 (fun hb30 => ?_) (fun hb30 => ?_)
        · try simp only [fa_lt, fa_le, fa_eq, Int32.reduceToInt] at hb30
          refine g_iconst (v := 1) (by decide) eX12_isPrime_51 ?_
          refine g_goto eX12_isPrime_52 ?_
          refine g_zret (ty := .boolean) rfl (by first | rfl | assumption) eX12_isPrime_56 ⟨_, rfl, ?_⟩
          try dsimp only
          first | exact ⟨rfl, b2_t (by omega)⟩ | exact ⟨rfl, b2_f (by omega)⟩
        · try simp only [fa_lt, fa_le, fa_eq, Int32.reduceToInt] at hb30
          refine g_ald0 eX12_isPrime_33 ?_
          refine g_getI (ci := 11) (j := 17) rfl (Nat.le_of_ble_eq_true rfl) (Nat.le_of_ble_eq_true rfl) (Nat.le_of_ble_eq_true rfl) rfl fl_X12_174 eX12_isPrime_34 ?_
          refine g_bipush (v := 11) (by decide) eX12_isPrime_37 ?_
          refine g_icmp_eq eX12_isPrime_39 (fun hb39 => ?_) (fun hb39 => ?_)
          · try simp only [fa_lt, fa_le, fa_eq, Int32.reduceToInt] at hb39
            refine g_iconst (v := 1) (by decide) eX12_isPrime_51 ?_
            refine g_goto eX12_isPrime_52 ?_
            refine g_zret (ty := .boolean) rfl (by first | rfl | assumption) eX12_isPrime_56 ⟨_, rfl, ?_⟩
            try dsimp only
            first | exact ⟨rfl, b2_t (by omega)⟩ | exact ⟨rfl, b2_f (by omega)⟩
          · try simp only [fa_lt, fa_le, fa_eq, Int32.reduceToInt] at hb39
            refine g_ald0 eX12_isPrime_42 ?_
            refine g_getI (ci := 11) (j := 17) rfl (Nat.le_of_ble_eq_true rfl) (Nat.le_of_ble_eq_true rfl) (Nat.le_of_ble_eq_true rfl) rfl fl_X12_174 eX12_isPrime_43 ?_
            refine g_bipush (v := 13) (by decide) eX12_isPrime_46 ?_
            refine g_icmp_ne eX12_isPrime_48 (fun hb48 => ?_) (fun hb48 => ?_)
            · try simp only [fa_lt, fa_le, fa_eq, Int32.reduceToInt] at hb48
              refine g_iconst (v := 0) (by decide) eX12_isPrime_55 ?_
              refine g_zret (ty := .boolean) rfl (by first | rfl | assumption) eX12_isPrime_56 ⟨_, rfl, ?_⟩
              try dsimp only
              first | exact ⟨rfl, b2_t (by omega)⟩ | exact ⟨rfl, b2_f (by omega)⟩
            · try simp only [fa_lt, fa_le, fa_eq, Int32.reduceToInt] at hb48
              refine g_iconst (v := 1) (by decide) eX12_isPrime_51 ?_
              refine g_goto eX12_isPrime_52 ?_
              refine g_zret (ty := .boolean) rfl (by first | rfl | assumption) eX12_isPrime_56 ⟨_, rfl, ?_⟩
              try dsimp only
              first | exact ⟨rfl, b2_t (by omega)⟩ | exact ⟨rfl, b2_f (by omega)⟩
/-- a name more -/
def knS (st : St) (n : Nat) (w : Int64) (s a : Int32) : St := sI (sI (sI (sL st 46 n w) 47 n s) 48 n a) 31 28 (nI (n + 1))
theorem w_knows (st : St) {Nm : List MN} (hn : nsOK st Nm) (hl : Nm.length < 300) (tok : Nat) (w : Nat) (ht : tok ≤ 300) (hw : st.2 37 tok = lN w) (s a : Int32) : Mv l D cy 0 YX12_knows [.ref 31, .int (nI tok), .int s, .int a] st (fun u => u = knS st Nm.length (lN w) s a) := by
  obtain ⟨n1, n2, n3⟩ := hn
  have hin : vp_in (nI Nm.length) 300 := vp_in_nI (by omega) (by decide)
  have hcl : (nI Nm.length).toNatClampNeg = Nm.length := nI_clamp (by omega)
  refine M.ofG [some (.ref 31), some (.int (nI tok)), some (.int s), some (.int a)] (by decide) (Nat.le_of_ble_eq_true rfl) rfl ?_
  intro xp xe xs xm xa xb xme xc xad xA
  refine g_ald0 eX12_knows_0 ?_
  refine g_getR (ci := 11) (j := 29) rfl (Nat.le_of_ble_eq_true rfl) (Nat.le_of_ble_eq_true rfl) (Nat.le_of_ble_eq_true rfl) rfl rfl fl_X12_58 eX12_knows_1 ?_
  refine g_ald0 eX12_knows_4 ?_
  refine g_getI (ci := 11) (j := 28) rfl (Nat.le_of_ble_eq_true rfl) (Nat.le_of_ble_eq_true rfl) (Nat.le_of_ble_eq_true rfl) rfl fl_X12_253 eX12_knows_5 ?_
  rw [n1]
  refine g_ald0 eX12_knows_8 ?_
  refine g_getR (ci := 11) (j := 7) rfl (Nat.le_of_ble_eq_true rfl) (Nat.le_of_ble_eq_true rfl) (Nat.le_of_ble_eq_true rfl) rfl rfl fl_X12_26 eX12_knows_9 ?_
  refine g_ild1 eX12_knows_12 ?_
  refine g_lald rfl (Nat.le_of_ble_eq_true rfl) (vp_in_nI (n := tok) (N := 303) (by omega) (by decide)) eX12_knows_13 ?_
  rw [nI_clamp (by omega), hw]
  refine g_last rfl (Nat.le_of_ble_eq_true rfl) hin eX12_knows_14 ?_
  refine g_ald0 eX12_knows_15 ?_
  refine g_getR (ci := 11) (j := 30) rfl (Nat.le_of_ble_eq_true rfl) (Nat.le_of_ble_eq_true rfl) (Nat.le_of_ble_eq_true rfl) rfl rfl fl_X12_61 eX12_knows_16 ?_
  refine g_ald0 eX12_knows_19 ?_
  refine g_getI (ci := 11) (j := 28) rfl (Nat.le_of_ble_eq_true rfl) (Nat.le_of_ble_eq_true rfl) (Nat.le_of_ble_eq_true rfl) rfl fl_X12_253 eX12_knows_20 ?_
  rw [hcl, show (sL st 46 Nm.length (lN w)).1 31 28 = nI Nm.length from n1]
  refine g_ild2 eX12_knows_23 ?_
  refine g_iast rfl (Nat.le_of_ble_eq_true rfl) hin eX12_knows_24 ?_
  refine g_ald0 eX12_knows_25 ?_
  refine g_getR (ci := 11) (j := 31) rfl (Nat.le_of_ble_eq_true rfl) (Nat.le_of_ble_eq_true rfl) (Nat.le_of_ble_eq_true rfl) rfl rfl fl_X12_64 eX12_knows_26 ?_
  refine g_ald0 eX12_knows_29 ?_
  refine g_getI (ci := 11) (j := 28) rfl (Nat.le_of_ble_eq_true rfl) (Nat.le_of_ble_eq_true rfl) (Nat.le_of_ble_eq_true rfl) rfl fl_X12_253 eX12_knows_30 ?_
  rw [hcl, show (sI (sL st 46 Nm.length (lN w)) 47 Nm.length s).1 31 28 = nI Nm.length from n1]
  refine g_ild3 eX12_knows_33 ?_
  refine g_iast rfl (Nat.le_of_ble_eq_true rfl) hin eX12_knows_34 ?_
  refine g_ald0 eX12_knows_35 ?_
  refine g_dup rfl eX12_knows_36 ?_
  refine g_getI (ci := 11) (j := 28) rfl (Nat.le_of_ble_eq_true rfl) (Nat.le_of_ble_eq_true rfl) (Nat.le_of_ble_eq_true rfl) rfl fl_X12_253 eX12_knows_37 ?_
  rw [hcl, show (sI (sI (sL st 46 Nm.length (lN w)) 47 Nm.length s) 48 Nm.length a).1 31 28 = nI Nm.length from n1]
  refine g_iconst (v := 1) (by decide) eX12_knows_40 ?_
  refine g_iadd eX12_knows_41 ?_
  refine g_putI (ci := 11) (j := 28) rfl rfl (Nat.le_of_ble_eq_true rfl) (Nat.le_of_ble_eq_true rfl) (Nat.le_of_ble_eq_true rfl) rfl fl_X12_253 eX12_knows_42 ?_
  rw [show nI Nm.length + 1 = nI (Nm.length + 1) from nI_1 _]
  exact g_vret rfl eX12_knows_45 ⟨rfl, rfl⟩
theorem ns_kn {st : St} {Nm : List MN} (hn : nsOK st Nm) (hl : Nm.length < 300) {w s a : Nat} (hw : w < 1099511627776) (hs : s ≤ 2) (ha : a ≤ 300) : nsOK (knS st Nm.length (lN w) (nI s) (nI a)) (Nm ++ [(w, s, a)]) := by
  obtain ⟨n1, n2, n3⟩ := hn
  unfold knS
  refine ⟨?_, ?_, fun j hj => ?_⟩
  · rw [sI_1, if_pos ⟨rfl, rfl⟩, List.length_append]; rfl
  · rw [List.length_append, List.length_singleton]; omega
  · rw [List.length_append, List.length_singleton] at hj
    rw [getD_app]
    rw [show (sI (sI (sI (sL st 46 Nm.length (lN w)) 47 Nm.length (nI s)) 48 Nm.length (nI a)) 31 28 (nI (Nm.length + 1))).2 46 j = (sL st 46 Nm.length (lN w)).2 46 j from rfl, sL_at]
    rw [sI_row (a := 47) (by decide), sI_row (a := 47) (by decide), sI_at, sI_row (a := 48) (by decide), sI_at, sI_row (a := 48) (by decide)]
    by_cases e : j = Nm.length
    · simp only [if_pos e, if_neg (show ¬ j < Nm.length by omega)]
      exact ⟨by trivial, by trivial, by trivial, hw, hs, ha⟩
    · simp only [if_neg e, if_pos (show j < Nm.length by omega)]
      exact n3 j (by omega)
/-- a tell more: from, to, its word, its let -/
abbrev TE : Type := Nat × Nat × Nat × Int
def teOK (st : St) (TL : List TE) : Prop := st.1 31 36 = nI TL.length ∧ ∀ j, j < TL.length → st.1 52 j = nI (TL.getD j (0, 0, 0, 0)).1 ∧ st.1 53 j = nI (TL.getD j (0, 0, 0, 0)).2.1 ∧ st.1 54 j = nI (TL.getD j (0, 0, 0, 0)).2.2.1 ∧ (st.1 55 j).toInt = (TL.getD j (0, 0, 0, 0)).2.2.2
def enS (st : St) (n : Nat) (c w z : Int32) : St := sI (sI (sI (sI st 53 n c) 54 n w) 55 n z) 31 36 (nI (n + 1))
theorem w_ends (st : St) (n c : Nat) (hn : st.1 31 36 = nI n) (hl : n < 100) (hc : st.1 31 44 = nI c) (w z : Int32) : Mv l D cy 0 YX12_ends [.ref 31, .int w, .int z] st (fun u => u = enS st n (nI c) w z) := by
  have hin : vp_in (nI n) 100 := vp_in_nI (by omega) (by decide)
  have hcl : (nI n).toNatClampNeg = n := nI_clamp (by omega)
  refine M.ofG [some (.ref 31), some (.int w), some (.int z)] (by decide) (Nat.le_of_ble_eq_true rfl) rfl ?_
  intro xp xe xs xm xa xb xme xc xad xA
  refine g_ald0 eX12_ends_0 ?_
  refine g_getR (ci := 11) (j := 40) rfl (Nat.le_of_ble_eq_true rfl) (Nat.le_of_ble_eq_true rfl) (Nat.le_of_ble_eq_true rfl) rfl rfl fl_X12_79 eX12_ends_1 ?_
  refine g_ald0 eX12_ends_4 ?_
  refine g_getI (ci := 11) (j := 36) rfl (Nat.le_of_ble_eq_true rfl) (Nat.le_of_ble_eq_true rfl) (Nat.le_of_ble_eq_true rfl) rfl fl_X12_259 eX12_ends_5 ?_
  rw [hn]
  refine g_ald0 eX12_ends_8 ?_
  refine g_getI (ci := 11) (j := 44) rfl (Nat.le_of_ble_eq_true rfl) (Nat.le_of_ble_eq_true rfl) (Nat.le_of_ble_eq_true rfl) rfl fl_X12_268 eX12_ends_9 ?_
  rw [hc]
  refine g_iast rfl (Nat.le_of_ble_eq_true rfl) hin eX12_ends_12 ?_
  refine g_ald0 eX12_ends_13 ?_
  refine g_getR (ci := 11) (j := 41) rfl (Nat.le_of_ble_eq_true rfl) (Nat.le_of_ble_eq_true rfl) (Nat.le_of_ble_eq_true rfl) rfl rfl fl_X12_82 eX12_ends_14 ?_
  refine g_ald0 eX12_ends_17 ?_
  refine g_getI (ci := 11) (j := 36) rfl (Nat.le_of_ble_eq_true rfl) (Nat.le_of_ble_eq_true rfl) (Nat.le_of_ble_eq_true rfl) rfl fl_X12_259 eX12_ends_18 ?_
  rw [hcl, show (sI st 53 n (nI c)).1 31 36 = nI n from hn]
  refine g_ild1 eX12_ends_21 ?_
  refine g_iast rfl (Nat.le_of_ble_eq_true rfl) hin eX12_ends_22 ?_
  refine g_ald0 eX12_ends_23 ?_
  refine g_getR (ci := 11) (j := 42) rfl (Nat.le_of_ble_eq_true rfl) (Nat.le_of_ble_eq_true rfl) (Nat.le_of_ble_eq_true rfl) rfl rfl fl_X12_85 eX12_ends_24 ?_
  refine g_ald0 eX12_ends_27 ?_
  refine g_getI (ci := 11) (j := 36) rfl (Nat.le_of_ble_eq_true rfl) (Nat.le_of_ble_eq_true rfl) (Nat.le_of_ble_eq_true rfl) rfl fl_X12_259 eX12_ends_28 ?_
  rw [hcl, show (sI (sI st 53 n (nI c)) 54 n w).1 31 36 = nI n from hn]
  refine g_ild2 eX12_ends_31 ?_
  refine g_iast rfl (Nat.le_of_ble_eq_true rfl) hin eX12_ends_32 ?_
  refine g_ald0 eX12_ends_33 ?_
  refine g_dup rfl eX12_ends_34 ?_
  refine g_getI (ci := 11) (j := 36) rfl (Nat.le_of_ble_eq_true rfl) (Nat.le_of_ble_eq_true rfl) (Nat.le_of_ble_eq_true rfl) rfl fl_X12_259 eX12_ends_35 ?_
  rw [hcl, show (sI (sI (sI st 53 n (nI c)) 54 n w) 55 n z).1 31 36 = nI n from hn]
  refine g_iconst (v := 1) (by decide) eX12_ends_38 ?_
  refine g_iadd eX12_ends_39 ?_
  refine g_putI (ci := 11) (j := 36) rfl rfl (Nat.le_of_ble_eq_true rfl) (Nat.le_of_ble_eq_true rfl) (Nat.le_of_ble_eq_true rfl) rfl fl_X12_259 eX12_ends_40 ?_
  rw [show nI n + 1 = nI (n + 1) from nI_1 _]
  exact g_vret rfl eX12_ends_43 ⟨rfl, rfl⟩
theorem te_en {st : St} {TL : List TE} (h : teOK st TL) {fr c w : Nat} {z : Int32} (hfr : st.1 52 TL.length = nI fr) : teOK (enS st TL.length (nI c) (nI w) z) (TL ++ [(fr, c, w, z.toInt)]) := by
  obtain ⟨h1, h2⟩ := h
  unfold enS
  refine ⟨?_, fun j hj => ?_⟩
  · rw [sI_1, if_pos ⟨rfl, rfl⟩, List.length_append]; rfl
  · rw [List.length_append, List.length_singleton] at hj
    rw [getD_app]
    rw [sI_row (a := 52) (by decide), sI_row (a := 52) (by decide), sI_row (a := 52) (by decide), sI_row (a := 52) (by decide)]
    rw [sI_row (a := 53) (by decide), sI_row (a := 53) (by decide), sI_row (a := 53) (by decide), sI_at]
    rw [sI_row (a := 54) (by decide), sI_row (a := 54) (by decide), sI_at, sI_row (a := 54) (by decide)]
    rw [sI_row (a := 55) (by decide), sI_at, sI_row (a := 55) (by decide), sI_row (a := 55) (by decide)]
    by_cases e : j = TL.length
    · simp only [if_pos e, if_neg (show ¬ j < TL.length by omega)]
      rw [e]
      exact ⟨hfr, by trivial, by trivial, by trivial⟩
    · simp only [if_neg e, if_pos (show j < TL.length by omega)]
      exact h2 j (by omega)
end TELM
