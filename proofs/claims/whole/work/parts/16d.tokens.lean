/-! TOKENS: the class cuts the tape -/
section TOKD
variable {l : Launch} {D : va_G} {cy : Nat → ClassId}
theorem ch_small {n : Nat} (h : n < 256) : ((nI n).toUInt32 % 65536).toInt32 = nI n := by
  revert n
  decide +kernel
def txW (i : Nat) : List Nat := ([[105, 110], [116, 97, 98, 108, 101], [108, 101, 116], [111, 117, 116], [99, 104, 111, 111, 115, 101], [97, 115, 107]] : List (List Nat)).getD i []
theorem txW_len : ∀ i, i < 6 → txN.getD i 0 = (txW i).length ∧ (txW i).length ≤ 6 := by decide +kernel
theorem txW_chr : ∀ i, i < 6 → ∀ k, k < 6 → k < (txW i).length → txC i k = nI ((txW i).getD k 0) ∧ (txW i).getD k 0 < 256 := by decide +kernel
theorem m_spells (st : St) {B : Nat → Nat} {n : Nat} (hT : tapOK st B n) (i0 e0 : Nat) (hi0 : i0 ≤ e0) (he : e0 ≤ n) (w : Nat) (hw : w < 6) : Mi l D cy 4 YX10_spells [.ref 1, .int (nI i0), .int (nI e0), .ref (116 + w)] st (fun r u => u = st ∧ r = b2 (wdF B i0 (e0 - i0) = txW w)) := by
  have h2 := hT.2.1
  obtain ⟨hlen, h6⟩ := txW_len w hw
  refine M.ofG [some (.ref 1), some (.int (nI i0)), some (.int (nI e0)), some (.ref (116 + w)), none] (by decide) (Nat.le_of_ble_eq_true rfl) rfl ?_
  intro xp xe xs xm xa xb xme xc xad xA
  refine g_ild2 eX10_spells_0 ?_
  refine g_ild1 eX10_spells_1 ?_
  refine g_isub eX10_spells_2 ?_
  refine g_ald3 eX10_spells_3 ?_
  refine g_callTi (i := w) (j_length st (by omega)) (by omega) rfl cv_X10_85 eX10_spells_4 (rm_ok (by omega)) rfl rfl (Nat.le_of_ble_eq_true rfl) (fun r st h => ?_)
  obtain ⟨rfl, rfl⟩ := h
  rw [nI_sub hi0, hlen]
  refine g_icmp_eq eX10_spells_7 (fun hb => ?_) (fun hb => ?_)
  · rw [nI_eq (by omega) (by omega)] at hb
    have loop : ∀ (f k : Nat), k + f = e0 - i0 → (∀ j, j < k → B (i0 + j) = (txW w).getD j 0) → G xp l xe (rmd (4)) xs xm xa xb xme xc D cy xad xA (YX10_spells.2.1, YX10_spells.1.cls, YX10_spells.2.2.1, YX10_spells.2.2.2) (Pi (fun (r : Int32) (u : St) => u = st ∧ r = b2 (wdF B i0 (e0 - i0) = txW w))) 15 ([some (.ref 1), some (.int (nI i0)), some (.int (nI e0)), some (.ref (116 + w)), some (.int (nI k))]) ([]) (st) := by
      intro f
      induction f with
      | zero =>
        intro k hk hall
        refine g_ild4 eX10_spells_15 ?_
        refine g_ald3 eX10_spells_17 ?_
        refine g_callTi (i := w) (j_length st (by omega)) (by omega) rfl cv_X10_85 eX10_spells_18 (rm_ok (by omega)) rfl rfl (Nat.le_of_ble_eq_true rfl) (fun r st h => ?_)
        obtain ⟨rfl, rfl⟩ := h
        rw [hlen]
        refine g_icmp_ge eX10_spells_21 (fun hb2 => ?_) (fun hb2 => ?_)
        · refine g_iconst (v := 1) (by decide) eX10_spells_49 ?_
          exact g_zret (ty := .boolean) rfl (by first | rfl | assumption) eX10_spells_50 ⟨_, rfl, ⟨rfl, b2_t (wdF_eq.mpr ⟨hb, fun j hj => hall j (by omega)⟩)⟩⟩
        · exact absurd (nI_le (by omega) (by omega)) hb2
      | succ f ih =>
        intro k hk hall
        refine g_ild4 eX10_spells_15 ?_
        refine g_ald3 eX10_spells_17 ?_
        refine g_callTi (i := w) (j_length st (by omega)) (by omega) rfl cv_X10_85 eX10_spells_18 (rm_ok (by omega)) rfl rfl (Nat.le_of_ble_eq_true rfl) (fun r st h => ?_)
        obtain ⟨rfl, rfl⟩ := h
        rw [hlen]
        refine g_icmp_ge eX10_spells_21 (fun hb2 => ?_) (fun hb2 => ?_)
        · exact absurd hb2 (nI_ge (by omega) (by omega))
        · refine g_ald0 eX10_spells_24 ?_
          refine g_ild1 eX10_spells_25 ?_
          refine g_ild4 eX10_spells_26 ?_
          refine g_iadd eX10_spells_28 ?_
          rw [nI_add]
          refine g_callVi (ci := 8) (m_at st (nI (i0 + k)) (tap_rng hT)) rfl (Nat.le_of_ble_eq_true rfl) (Nat.le_of_ble_eq_true rfl) rfl cv_X10_40 eX10_spells_29 ⟨Nat.le_of_ble_eq_true rfl, Nat.le_of_ble_eq_true rfl⟩ rfl rfl (Nat.le_of_ble_eq_true rfl) (fun r st h => ?_)
          obtain ⟨rfl, rfl⟩ := h
          rw [atB hT (by omega)]
          refine g_ald3 eX10_spells_32 ?_
          refine g_ild4 eX10_spells_33 ?_
          refine g_callTi (i := w) (j_charAt st (by omega) k (by omega)) (by omega) rfl cv_X10_88 eX10_spells_35 (rm_ok (by omega)) rfl rfl (Nat.le_of_ble_eq_true rfl) (fun r st h => ?_)
          obtain ⟨rfl, rfl⟩ := h
          obtain ⟨hc1, hc2⟩ := txW_chr w hw k (by omega) (by omega)
          have hB := (hT.2.2 (i0 + k) (by omega)).2
          rw [hc1]
          refine g_icmp_eq eX10_spells_38 (fun hb3 => ?_) (fun hb3 => ?_)
          · rw [nI_eq (by omega) (by omega)] at hb3
            refine g_inc4 rfl (Nat.le_of_ble_eq_true rfl) rfl eX10_spells_43 ?_
            refine g_goto eX10_spells_46 ?_
            rw [inc1]
            refine ih (k + 1) (by omega) (fun j hj => ?_)
            by_cases e : j = k
            · rw [e]; exact hb3
            · exact hall j (by omega)
          · rw [nI_eq (by omega) (by omega)] at hb3
            refine g_iconst (v := 0) (by decide) eX10_spells_41 ?_
            exact g_zret (ty := .boolean) rfl (by first | rfl | assumption) eX10_spells_42 ⟨_, rfl, ⟨rfl, b2_f (fun q => hb3 ((wdF_eq.mp q).2 k (by omega)))⟩⟩
    refine g_iconst (v := 0) (by decide) eX10_spells_12 ?_
    refine g_ist4 rfl (Nat.le_of_ble_eq_true rfl) eX10_spells_13 ?_
    exact loop (e0 - i0) 0 (by omega) (fun j hj => absurd hj (Nat.not_lt_zero _))
  · rw [nI_eq (by omega) (by omega)] at hb
    refine g_iconst (v := 0) (by decide) eX10_spells_10 ?_
    exact g_zret (ty := .boolean) rfl (by first | rfl | assumption) eX10_spells_11 ⟨_, rfl, ⟨rfl, b2_f (fun q => hb (wdF_eq.mp q).1)⟩⟩
theorem wordK_tx (w : List Nat) : wordK w = if w = txW 0 then 4 else if w = txW 1 then 5 else if w = txW 2 then 6 else if w = txW 3 then 7 else if w = txW 4 then 8 else if w = txW 5 then 9 else 2 := rfl
theorem m_wordOrName (st : St) {B : Nat → Nat} {n : Nat} (hT : tapOK st B n) (i0 e0 : Nat) (hi0 : i0 ≤ e0) (he : e0 ≤ n) : Mi l D cy 5 YX10_wordOrName [.ref 1, .int (nI i0), .int (nI e0)] st (fun r u => u = st ∧ r = nI (wordK (wdF B i0 (e0 - i0)))) := by
  refine M.ofG [some (.ref 1), some (.int (nI i0)), some (.int (nI e0))] (by decide) (Nat.le_of_ble_eq_true rfl) rfl ?_
  intro xp xe xs xm xa xb xme xc xad xA
  rw [wordK_tx]
  refine g_ald0 eX10_wordOrName_0 ?_
  refine g_ild1 eX10_wordOrName_1 ?_
  refine g_ild2 eX10_wordOrName_2 ?_
  refine g_ldcT (i := 0) (by decide) rfl rfl eX10_wordOrName_3 ?_
  refine g_callSi (m_spells st hT i0 e0 hi0 he 0 (by decide)) cs_X10_71 eX10_wordOrName_5 ⟨Nat.le_of_ble_eq_true rfl, Nat.le_of_ble_eq_true rfl⟩ rfl rfl (Nat.le_of_ble_eq_true rfl) (fun r u h => ?_)
  obtain ⟨rfl, rfl⟩ := h
  refine g_if_eq eX10_wordOrName_8 (fun hb => ?_) (fun hb => ?_)
  · rw [b2_eq0] at hb
    rw [if_neg hb]
    refine g_ald0 eX10_wordOrName_13 ?_
    refine g_ild1 eX10_wordOrName_14 ?_
    refine g_ild2 eX10_wordOrName_15 ?_
    refine g_ldcT (i := 1) (by decide) rfl rfl eX10_wordOrName_16 ?_
    refine g_callSi (m_spells u hT i0 e0 hi0 he 1 (by decide)) cs_X10_71 eX10_wordOrName_18 ⟨Nat.le_of_ble_eq_true rfl, Nat.le_of_ble_eq_true rfl⟩ rfl rfl (Nat.le_of_ble_eq_true rfl) (fun r u h => ?_)
    obtain ⟨rfl, rfl⟩ := h
    refine g_if_eq eX10_wordOrName_21 (fun hb => ?_) (fun hb => ?_)
    · rw [b2_eq0] at hb
      rw [if_neg hb]
      refine g_ald0 eX10_wordOrName_26 ?_
      refine g_ild1 eX10_wordOrName_27 ?_
      refine g_ild2 eX10_wordOrName_28 ?_
      refine g_ldcT (i := 2) (by decide) rfl rfl eX10_wordOrName_29 ?_
      refine g_callSi (m_spells u hT i0 e0 hi0 he 2 (by decide)) cs_X10_71 eX10_wordOrName_31 ⟨Nat.le_of_ble_eq_true rfl, Nat.le_of_ble_eq_true rfl⟩ rfl rfl (Nat.le_of_ble_eq_true rfl) (fun r u h => ?_)
      obtain ⟨rfl, rfl⟩ := h
      refine g_if_eq eX10_wordOrName_34 (fun hb => ?_) (fun hb => ?_)
      · rw [b2_eq0] at hb
        rw [if_neg hb]
        refine g_ald0 eX10_wordOrName_40 ?_
        refine g_ild1 eX10_wordOrName_41 ?_
        refine g_ild2 eX10_wordOrName_42 ?_
        refine g_ldcT (i := 3) (by decide) rfl rfl eX10_wordOrName_43 ?_
        refine g_callSi (m_spells u hT i0 e0 hi0 he 3 (by decide)) cs_X10_71 eX10_wordOrName_45 ⟨Nat.le_of_ble_eq_true rfl, Nat.le_of_ble_eq_true rfl⟩ rfl rfl (Nat.le_of_ble_eq_true rfl) (fun r u h => ?_)
        obtain ⟨rfl, rfl⟩ := h
        refine g_if_eq eX10_wordOrName_48 (fun hb => ?_) (fun hb => ?_)
        · rw [b2_eq0] at hb
          rw [if_neg hb]
          refine g_ald0 eX10_wordOrName_54 ?_
          refine g_ild1 eX10_wordOrName_55 ?_
          refine g_ild2 eX10_wordOrName_56 ?_
          refine g_ldcT (i := 4) (by decide) rfl rfl eX10_wordOrName_57 ?_
          refine g_callSi (m_spells u hT i0 e0 hi0 he 4 (by decide)) cs_X10_71 eX10_wordOrName_59 ⟨Nat.le_of_ble_eq_true rfl, Nat.le_of_ble_eq_true rfl⟩ rfl rfl (Nat.le_of_ble_eq_true rfl) (fun r u h => ?_)
          obtain ⟨rfl, rfl⟩ := h
          refine g_if_eq eX10_wordOrName_62 (fun hb => ?_) (fun hb => ?_)
          · rw [b2_eq0] at hb
            rw [if_neg hb]
            refine g_ald0 eX10_wordOrName_68 ?_
            refine g_ild1 eX10_wordOrName_69 ?_
            refine g_ild2 eX10_wordOrName_70 ?_
            refine g_ldcT (i := 5) (by decide) rfl rfl eX10_wordOrName_71 ?_
            refine g_callSi (m_spells u hT i0 e0 hi0 he 5 (by decide)) cs_X10_71 eX10_wordOrName_73 ⟨Nat.le_of_ble_eq_true rfl, Nat.le_of_ble_eq_true rfl⟩ rfl rfl (Nat.le_of_ble_eq_true rfl) (fun r u h => ?_)
            obtain ⟨rfl, rfl⟩ := h
            refine g_if_eq eX10_wordOrName_76 (fun hb => ?_) (fun hb => ?_)
            · rw [b2_eq0] at hb
              rw [if_neg hb]
              refine g_iconst (v := 2) (by decide) eX10_wordOrName_84 ?_
              exact g_iret rfl eX10_wordOrName_85 ⟨_, rfl, ⟨rfl, rfl⟩⟩
            · rw [b2_ne0] at hb
              rw [if_pos hb]
              refine g_bipush (v := 9) (by decide) eX10_wordOrName_79 ?_
              refine g_goto eX10_wordOrName_81 ?_
              exact g_iret rfl eX10_wordOrName_85 ⟨_, rfl, ⟨rfl, rfl⟩⟩
          · rw [b2_ne0] at hb
            rw [if_pos hb]
            refine g_bipush (v := 8) (by decide) eX10_wordOrName_65 ?_
            exact g_iret rfl eX10_wordOrName_67 ⟨_, rfl, ⟨rfl, rfl⟩⟩
        · rw [b2_ne0] at hb
          rw [if_pos hb]
          refine g_bipush (v := 7) (by decide) eX10_wordOrName_51 ?_
          exact g_iret rfl eX10_wordOrName_53 ⟨_, rfl, ⟨rfl, rfl⟩⟩
      · rw [b2_ne0] at hb
        rw [if_pos hb]
        refine g_bipush (v := 6) (by decide) eX10_wordOrName_37 ?_
        exact g_iret rfl eX10_wordOrName_39 ⟨_, rfl, ⟨rfl, rfl⟩⟩
    · rw [b2_ne0] at hb
      rw [if_pos hb]
      refine g_iconst (v := 5) (by decide) eX10_wordOrName_24 ?_
      exact g_iret rfl eX10_wordOrName_25 ⟨_, rfl, ⟨rfl, rfl⟩⟩
  · rw [b2_ne0] at hb
    rw [if_pos hb]
    refine g_iconst (v := 4) (by decide) eX10_wordOrName_11 ?_
    exact g_iret rfl eX10_wordOrName_12 ⟨_, rfl, ⟨rfl, rfl⟩⟩
/-- a token put down at place c of the rows -/
def tokS (st : St) (c k p : Nat) (v : Int64) : St := (fun a b => if a = 5 ∧ b = c then nI k else if a = 6 ∧ b = c then nI p else st.1 a b, fun a b => if a = 7 ∧ b = c then v else st.2 a b)
theorem tokS_5 (st : St) (c k p : Nat) (v : Int64) : (tokS st c k p v).1 5 c = nI k := if_pos ⟨rfl, rfl⟩
theorem tokS_6 (st : St) (c k p : Nat) (v : Int64) : (tokS st c k p v).1 6 c = nI p := by
  show (if (6 : Nat) = 5 ∧ c = c then nI k else if 6 = 6 ∧ c = c then nI p else st.1 6 c) = nI p
  rw [if_neg (by omega), if_pos ⟨rfl, rfl⟩]
theorem tokS_7 (st : St) (c k p : Nat) (v : Int64) : (tokS st c k p v).2 7 c = v := if_pos ⟨rfl, rfl⟩
theorem tokS_n1 (st : St) (c k p : Nat) (v : Int64) (a : Nat) {j : Nat} (h : j ≠ c) : (tokS st c k p v).1 a j = st.1 a j := by
  show (if a = 5 ∧ j = c then nI k else if a = 6 ∧ j = c then nI p else st.1 a j) = st.1 a j
  rw [if_neg (fun q => h q.2), if_neg (fun q => h q.2)]
theorem tokS_n2 (st : St) (c k p : Nat) (v : Int64) (a : Nat) {j : Nat} (h : j ≠ c) : (tokS st c k p v).2 a j = st.2 a j := by
  show (if a = 7 ∧ j = c then v else st.2 a j) = st.2 a j
  rw [if_neg (fun q => h q.2)]
theorem tok_end (st : St) (c k p : Nat) (v w : Int64) : sL (sI (sL (sI st 6 c (nI p)) 7 c w) 5 c (nI k)) 7 c v = tokS st c k p v := by
  refine St_ext (fun a b => ?_) (fun a b => ?_)
  · rfl
  · show (if a = 7 ∧ b = c then v else if a = 7 ∧ b = c then w else st.2 a b) = if a = 7 ∧ b = c then v else st.2 a b
    split <;> rfl
theorem tok_end0 (st : St) (c k p : Nat) : sI (sL (sI st 6 c (nI p)) 7 c 0) 5 c (nI k) = tokS st c k p 0 := rfl
theorem cnt_rows {st : St} {c p : Nat} (h : st.1 4 3 = nI c) : (sL (sI st 6 c (nI p)) 7 c 0).1 4 3 = nI c := h
theorem cnt_rows2 {st : St} {c p : Nat} {k : Int32} (h : st.1 4 3 = nI c) : (sI (sL (sI st 6 c (nI p)) 7 c 0) 5 c k).1 4 3 = nI c := h
theorem tap_row {st u : St} {B : Nat → Nat} {n : Nat} (h : tapOK st B n) (h1 : u.1 1 = st.1 1) (h2 : u.1 2 = st.1 2) : tapOK u B n := by
  unfold tapOK
  rw [h1, h2]
  exact h
theorem m_setKind (st : St) {B : Nat → Nat} {n : Nat} (hT : tapOK st B n) (i0 : Nat) (hi0 : i0 < n) (c : Nat) (hc : st.1 4 3 = nI c) (hc3 : c ≤ 300) : Mv l D cy 6 YX10_setKind [.ref 4, .ref 1, .int (nI i0), .int (nI (endT B n i0))] st (fun u => u = tokS st c (kdF B n i0) i0 (lN (vlF B n i0))) := by
  have h2 := hT.2.1
  have hB := (hT.2.2 i0 hi0).2
  obtain ⟨he1, he2⟩ := endT_rng (B := B) hi0
  have hcl : (nI c).toNatClampNeg = c := nI_clamp (by omega)
  have hin : vp_in (nI c) 302 := vp_in_nI (by omega) (by decide)
  have hT1 : tapOK (sL (sI st 6 c (nI i0)) 7 c 0) B n := tap_row hT rfl rfl
  refine M.ofG [some (.ref 4), some (.ref 1), some (.int (nI i0)), some (.int (nI (endT B n i0))), none] (by decide) (Nat.le_of_ble_eq_true rfl) rfl ?_
  intro xp xe xs xm xa xb xme xc xad xA
  refine g_ald1 eX10_setKind_0 ?_
  refine g_ild2 eX10_setKind_1 ?_
  refine g_callVi (ci := 8) (m_at st (nI i0) (tap_rng hT)) rfl (Nat.le_of_ble_eq_true rfl) (Nat.le_of_ble_eq_true rfl) rfl cv_X10_40 eX10_setKind_2 ⟨Nat.le_of_ble_eq_true rfl, Nat.le_of_ble_eq_true rfl⟩ rfl rfl (Nat.le_of_ble_eq_true rfl) (fun r st h => ?_)
  obtain ⟨rfl, rfl⟩ := h
  rw [atB hT hi0]
  refine g_ist4 rfl (Nat.le_of_ble_eq_true rfl) eX10_setKind_5 ?_
  refine g_ald0 eX10_setKind_7 ?_
  refine g_getR (ci := 9) (j := 1) rfl (Nat.le_of_ble_eq_true rfl) (Nat.le_of_ble_eq_true rfl) (Nat.le_of_ble_eq_true rfl) rfl rfl fl_X10_13 eX10_setKind_8 ?_
  refine g_ald0 eX10_setKind_11 ?_
  refine g_getI (ci := 9) (j := 3) rfl (Nat.le_of_ble_eq_true rfl) (Nat.le_of_ble_eq_true rfl) (Nat.le_of_ble_eq_true rfl) rfl fl_X10_20 eX10_setKind_12 ?_
  rw [hc]
  refine g_ild2 eX10_setKind_15 ?_
  refine g_iast rfl (Nat.le_of_ble_eq_true rfl) hin eX10_setKind_16 ?_
  refine g_ald0 eX10_setKind_17 ?_
  refine g_getR (ci := 9) (j := 2) rfl (Nat.le_of_ble_eq_true rfl) (Nat.le_of_ble_eq_true rfl) (Nat.le_of_ble_eq_true rfl) rfl rfl fl_X10_16 eX10_setKind_18 ?_
  refine g_ald0 eX10_setKind_21 ?_
  refine g_getI (ci := 9) (j := 3) rfl (Nat.le_of_ble_eq_true rfl) (Nat.le_of_ble_eq_true rfl) (Nat.le_of_ble_eq_true rfl) rfl fl_X10_20 eX10_setKind_22 ?_
  rw [hcl]
  rw [show (sI st 6 c (nI i0)).1 4 3 = nI c from hc]
  refine g_lconst (v := 0) rfl eX10_setKind_25 ?_
  refine g_last rfl (Nat.le_of_ble_eq_true rfl) hin eX10_setKind_26 ?_
  refine g_ild4 eX10_setKind_27 ?_
  rw [hcl]
  refine g_callSi (m_isLetter _ (B i0) hB) cs_X10_48 eX10_setKind_29 ⟨Nat.le_of_ble_eq_true rfl, Nat.le_of_ble_eq_true rfl⟩ rfl rfl (Nat.le_of_ble_eq_true rfl) (fun r u h => ?_)
  obtain ⟨rfl, rfl⟩ := h
  refine g_if_eq eX10_setKind_32 (fun hb => ?_) (fun hb => ?_)
  · rw [b2_eq0] at hb
    refine g_ild4 eX10_setKind_84 ?_
    refine g_callSi (m_isDigit _ (B i0) hB) cs_X10_51 eX10_setKind_86 ⟨Nat.le_of_ble_eq_true rfl, Nat.le_of_ble_eq_true rfl⟩ rfl rfl (Nat.le_of_ble_eq_true rfl) (fun r u h => ?_)
    obtain ⟨rfl, rfl⟩ := h
    refine g_if_eq eX10_setKind_89 (fun hb2 => ?_) (fun hb2 => ?_)
    · rw [b2_eq0] at hb2
      refine g_ald0 eX10_setKind_135 ?_
      refine g_getR (ci := 9) (j := 0) rfl (Nat.le_of_ble_eq_true rfl) (Nat.le_of_ble_eq_true rfl) (Nat.le_of_ble_eq_true rfl) rfl rfl fl_X10_9 eX10_setKind_136 ?_
      refine g_ald0 eX10_setKind_139 ?_
      refine g_getI (ci := 9) (j := 3) rfl (Nat.le_of_ble_eq_true rfl) (Nat.le_of_ble_eq_true rfl) (Nat.le_of_ble_eq_true rfl) rfl fl_X10_20 eX10_setKind_140 ?_
      rw [cnt_rows hc]
      refine g_ldcT (i := 6) (by decide) rfl rfl eX10_setKind_143 ?_
      refine g_ild4 eX10_setKind_145 ?_
      refine g_i2c eX10_setKind_147 ?_
      rw [show ((nI (B i0)).toUInt32 % 65536).toInt32 = nI (B i0) from ch_small (by omega)]
      refine g_callTi (i := 6) (j_indexOf _ (B i0) hB) (by decide) rfl cv_X10_64 eX10_setKind_148 (rm_ok (by omega)) rfl rfl (Nat.le_of_ble_eq_true rfl) (fun r u h => ?_)
      obtain ⟨rfl, h⟩ := h
      have hv : vlF B n i0 = 0 := by unfold vlF; rw [if_neg hb, if_neg hb2]
      refine g_if_lt eX10_setKind_151 (fun hb3 => ?_) (fun hb3 => ?_)
      · rw [fa_lt, z32] at hb3
        refine g_iconst (v := 1) (by decide) eX10_setKind_159 ?_
        refine g_iast rfl (Nat.le_of_ble_eq_true rfl) hin eX10_setKind_160 ?_
        rw [hcl]
        refine g_vret rfl eX10_setKind_161 ⟨rfl, ?_⟩
        try dsimp only
        rw [hv, show kdF B n i0 = 1 by unfold kdF; rw [if_neg hb, if_neg hb2, if_neg (fun q => by have := h.mpr q; omega)]]
        rfl
      · rw [fa_lt, z32] at hb3
        refine g_ild4 eX10_setKind_154 ?_
        refine g_goto eX10_setKind_156 ?_
        refine g_iast rfl (Nat.le_of_ble_eq_true rfl) hin eX10_setKind_160 ?_
        rw [hcl]
        refine g_vret rfl eX10_setKind_161 ⟨rfl, ?_⟩
        try dsimp only
        rw [hv, show kdF B n i0 = B i0 by unfold kdF; rw [if_neg hb, if_neg hb2, if_pos (h.mp (by omega))]]
        rfl
    · rw [b2_ne0] at hb2
      have hv : vlF B n i0 = numF 10 48 B i0 (endT B n i0 - i0) := by unfold vlF; rw [if_neg hb, if_pos hb2]
      have hz : ∀ j, i0 ≤ j → j < endT B n i0 → 48 ≤ B j := by
        intro j h1 h2
        rw [endT_dgt hi0 hb2] at h2
        exact (stp_in h1 h2).2.1
      have fin : ∀ k : Nat, kdF B n i0 = k → G xp l xe (rmd (6)) xs xm xa xb xme xc D cy xad xA (YX10_setKind.2.1, YX10_setKind.1.cls, YX10_setKind.2.2.1, YX10_setKind.2.2.2) (Pv (fun (u : St) => u = tokS st c (kdF B n i0) i0 (lN (vlF B n i0)))) 112 ([some (.ref 4), some (.ref 1), some (.int (nI i0)), some (.int (nI (endT B n i0))), some (.int (nI (B i0)))]) ([.int (nI k), .int (nI c), .ref 5]) (sL (sI st 6 c (nI i0)) 7 c 0) := by
        intro k hk
        refine g_iast rfl (Nat.le_of_ble_eq_true rfl) hin eX10_setKind_112 ?_
        refine g_ald0 eX10_setKind_113 ?_
        refine g_getR (ci := 9) (j := 2) rfl (Nat.le_of_ble_eq_true rfl) (Nat.le_of_ble_eq_true rfl) (Nat.le_of_ble_eq_true rfl) rfl rfl fl_X10_16 eX10_setKind_114 ?_
        refine g_ald0 eX10_setKind_117 ?_
        rw [hcl]
        refine g_getI (ci := 9) (j := 3) rfl (Nat.le_of_ble_eq_true rfl) (Nat.le_of_ble_eq_true rfl) (Nat.le_of_ble_eq_true rfl) rfl fl_X10_20 eX10_setKind_118 ?_
        rw [cnt_rows2 hc]
        refine g_ald1 eX10_setKind_121 ?_
        refine g_ild2 eX10_setKind_122 ?_
        refine g_ild3 eX10_setKind_123 ?_
        refine g_bipush (v := 10) (by decide) eX10_setKind_124 ?_
        refine g_bipush (v := 48) (by decide) eX10_setKind_126 ?_
        have hT2 : tapOK (sI (sL (sI st 6 c (nI i0)) 7 c 0) 5 c (nI k)) B n := tap_row hT rfl rfl
        refine g_callSl (m_numberOf _ hT2 i0 (endT B n i0) 10 48 (by omega) he2 (by decide) hz 10 48 rfl rfl) cs_X10_58 eX10_setKind_128 ⟨Nat.le_of_ble_eq_true rfl, Nat.le_of_ble_eq_true rfl⟩ rfl rfl (Nat.le_of_ble_eq_true rfl) (fun r u h => ?_)
        obtain ⟨rfl, rfl⟩ := h
        refine g_last rfl (Nat.le_of_ble_eq_true rfl) hin eX10_setKind_131 ?_
        refine g_goto eX10_setKind_132 ?_
        rw [hcl]
        refine g_vret rfl eX10_setKind_161 ⟨rfl, ?_⟩
        try dsimp only
        rw [hv, hk]
        exact tok_end _ _ _ _ _ _
      refine g_ald0 eX10_setKind_92 ?_
      refine g_getR (ci := 9) (j := 0) rfl (Nat.le_of_ble_eq_true rfl) (Nat.le_of_ble_eq_true rfl) (Nat.le_of_ble_eq_true rfl) rfl rfl fl_X10_9 eX10_setKind_93 ?_
      refine g_ald0 eX10_setKind_96 ?_
      refine g_getI (ci := 9) (j := 3) rfl (Nat.le_of_ble_eq_true rfl) (Nat.le_of_ble_eq_true rfl) (Nat.le_of_ble_eq_true rfl) rfl fl_X10_20 eX10_setKind_97 ?_
      rw [cnt_rows hc]
      refine g_ild3 eX10_setKind_100 ?_
      refine g_ild2 eX10_setKind_101 ?_
      refine g_isub eX10_setKind_102 ?_
      refine g_iconst (v := 4) (by decide) eX10_setKind_103 ?_
      rw [nI_sub (by omega)]
      refine g_icmp_le eX10_setKind_104 (fun hb3 => ?_) (fun hb3 => ?_)
      · rw [show (4 : Int32) = nI 4 from rfl, nI_leI (by omega) (by omega)] at hb3
        refine g_iconst (v := 3) (by decide) eX10_setKind_111 ?_
        exact fin 3 (by unfold kdF; rw [if_neg hb, if_pos hb2, if_neg (by omega)])
      · rw [show (4 : Int32) = nI 4 from rfl, nI_leI (by omega) (by omega)] at hb3
        refine g_iconst (v := 1) (by decide) eX10_setKind_107 ?_
        refine g_goto eX10_setKind_108 ?_
        exact fin 1 (by unfold kdF; rw [if_neg hb, if_pos hb2, if_pos (by omega)])
  · rw [b2_ne0] at hb
    have hv : vlF B n i0 = numF 32 96 B i0 (endT B n i0 - i0) := by unfold vlF; rw [if_pos hb]
    have hz : ∀ j, i0 ≤ j → j < endT B n i0 → 96 ≤ B j := by
      intro j h1 h2
      rw [endT_ltr hi0 hb] at h2
      have := (stp_in h1 h2).2.1
      omega
    have fin : ∀ k : Nat, kdF B n i0 = k → G xp l xe (rmd (6)) xs xm xa xb xme xc D cy xad xA (YX10_setKind.2.1, YX10_setKind.1.cls, YX10_setKind.2.2.1, YX10_setKind.2.2.2) (Pv (fun (u : St) => u = tokS st c (kdF B n i0) i0 (lN (vlF B n i0)))) 61 ([some (.ref 4), some (.ref 1), some (.int (nI i0)), some (.int (nI (endT B n i0))), some (.int (nI (B i0)))]) ([.int (nI k), .int (nI c), .ref 5]) (sL (sI st 6 c (nI i0)) 7 c 0) := by
      intro k hk
      refine g_iast rfl (Nat.le_of_ble_eq_true rfl) hin eX10_setKind_61 ?_
      refine g_ald0 eX10_setKind_62 ?_
      refine g_getR (ci := 9) (j := 2) rfl (Nat.le_of_ble_eq_true rfl) (Nat.le_of_ble_eq_true rfl) (Nat.le_of_ble_eq_true rfl) rfl rfl fl_X10_16 eX10_setKind_63 ?_
      refine g_ald0 eX10_setKind_66 ?_
      rw [hcl]
      refine g_getI (ci := 9) (j := 3) rfl (Nat.le_of_ble_eq_true rfl) (Nat.le_of_ble_eq_true rfl) (Nat.le_of_ble_eq_true rfl) rfl fl_X10_20 eX10_setKind_67 ?_
      rw [cnt_rows2 hc]
      refine g_ald1 eX10_setKind_70 ?_
      refine g_ild2 eX10_setKind_71 ?_
      refine g_ild3 eX10_setKind_72 ?_
      refine g_bipush (v := 32) (by decide) eX10_setKind_73 ?_
      refine g_bipush (v := 96) (by decide) eX10_setKind_75 ?_
      have hT2 : tapOK (sI (sL (sI st 6 c (nI i0)) 7 c 0) 5 c (nI k)) B n := tap_row hT rfl rfl
      refine g_callSl (m_numberOf _ hT2 i0 (endT B n i0) 32 96 (by omega) he2 (by decide) hz 32 96 rfl rfl) cs_X10_58 eX10_setKind_77 ⟨Nat.le_of_ble_eq_true rfl, Nat.le_of_ble_eq_true rfl⟩ rfl rfl (Nat.le_of_ble_eq_true rfl) (fun r u h => ?_)
      obtain ⟨rfl, rfl⟩ := h
      refine g_last rfl (Nat.le_of_ble_eq_true rfl) hin eX10_setKind_80 ?_
      refine g_goto eX10_setKind_81 ?_
      rw [hcl]
      refine g_vret rfl eX10_setKind_161 ⟨rfl, ?_⟩
      try dsimp only
      rw [hv, hk]
      exact tok_end _ _ _ _ _ _
    refine g_ald0 eX10_setKind_35 ?_
    refine g_getR (ci := 9) (j := 0) rfl (Nat.le_of_ble_eq_true rfl) (Nat.le_of_ble_eq_true rfl) (Nat.le_of_ble_eq_true rfl) rfl rfl fl_X10_9 eX10_setKind_36 ?_
    refine g_ald0 eX10_setKind_39 ?_
    refine g_getI (ci := 9) (j := 3) rfl (Nat.le_of_ble_eq_true rfl) (Nat.le_of_ble_eq_true rfl) (Nat.le_of_ble_eq_true rfl) rfl fl_X10_20 eX10_setKind_40 ?_
    rw [cnt_rows hc]
    refine g_ild3 eX10_setKind_43 ?_
    refine g_ild2 eX10_setKind_44 ?_
    refine g_isub eX10_setKind_45 ?_
    refine g_bipush (v := 8) (by decide) eX10_setKind_46 ?_
    rw [nI_sub (by omega)]
    refine g_icmp_le eX10_setKind_48 (fun hb3 => ?_) (fun hb3 => ?_)
    · rw [show (8 : Int32) = nI 8 from rfl, nI_leI (by omega) (by omega)] at hb3
      refine g_ald1 eX10_setKind_55 ?_
      refine g_ild2 eX10_setKind_56 ?_
      refine g_ild3 eX10_setKind_57 ?_
      refine g_callSi (m_wordOrName _ hT1 i0 (endT B n i0) (by omega) he2) cs_X10_54 eX10_setKind_58 ⟨Nat.le_of_ble_eq_true rfl, Nat.le_of_ble_eq_true rfl⟩ rfl rfl (Nat.le_of_ble_eq_true rfl) (fun r u h => ?_)
      obtain ⟨rfl, rfl⟩ := h
      exact fin _ (by unfold kdF; rw [if_pos hb, if_neg (by omega)])
    · rw [show (8 : Int32) = nI 8 from rfl, nI_leI (by omega) (by omega)] at hb3
      refine g_iconst (v := 1) (by decide) eX10_setKind_51 ?_
      refine g_goto eX10_setKind_52 ?_
      exact fin 1 (by unfold kdF; rw [if_pos hb, if_pos (by omega)])
/-- the class' rows hold the tokens up to place k, all of them with none that is bad -/
def tksOK (st : St) (B : Nat → Nat) (n c : Nat) : Prop := ∀ k, k < c → st.1 5 k = nI (tkK B n k) ∧ st.1 6 k = nI (tkP B n k) ∧ st.2 7 k = lN (tkV B n k)
theorem tks_put {st : St} {B : Nat → Nat} {n c : Nat} (h : tksOK st B n c) {k p v : Nat} (hk : tkK B n c = k) (hp : tkP B n c = p) (hv : tkV B n c = v) : tksOK (tokS st c k p (lN v)) B n (c + 1) := by
  subst hk; subst hp; subst hv
  intro j hj
  by_cases e : j = c
  · subst e
    exact ⟨tokS_5 _ _ _ _ _, tokS_6 _ _ _ _ _, tokS_7 _ _ _ _ _⟩
  · rw [tokS_n1 _ _ _ _ _ _ e, tokS_n1 _ _ _ _ _ _ e, tokS_n2 _ _ _ _ _ _ e]
    exact h j (by omega)
/-- nothing but the tokens' rows and their count -/
def tkFr (st u : St) : Prop := (∀ a, a ≠ 4 → a ≠ 5 → a ≠ 6 → u.1 a = st.1 a) ∧ ∀ a, a ≠ 7 → u.2 a = st.2 a
theorem tkFr_put {st u : St} (h : tkFr st u) (c k p : Nat) (v : Int64) : tkFr st (tokS u c k p v) := by
  refine ⟨fun a h4 h5 h6 => ?_, fun a h7 => ?_⟩
  · rw [← h.1 a h4 h5 h6]
    funext b
    show (if a = 5 ∧ b = c then nI k else if a = 6 ∧ b = c then nI p else u.1 a b) = u.1 a b
    rw [if_neg (fun q => h5 q.1), if_neg (fun q => h6 q.1)]
  · rw [← h.2 a h7]
    funext b
    show (if a = 7 ∧ b = c then v else u.2 a b) = u.2 a b
    rw [if_neg (fun q => h7 q.1)]
theorem tkFr_cnt {st u : St} (h : tkFr st u) (j : Nat) (x : Int32) : tkFr st (sI u 4 j x) := ⟨fun a h4 h5 h6 => by rw [sI_row h4]; exact h.1 a h4 h5 h6, h.2⟩
theorem tks_cnt {st : St} {B : Nat → Nat} {n c j : Nat} {x : Int32} (h : tksOK st B n c) : tksOK (sI st 4 j x) B n c := h
theorem m_split (st : St) {B : Nat → Nat} {n : Nat} (hT : tapOK st B n) : Mv l D cy 7 YX10_split [.ref 4, .ref 1] st (fun u => tkFr st u ∧ ∃ c, c ≤ 301 ∧ u.1 4 3 = nI c ∧ (∀ j, j < c → tkK B n j ≠ 0 ∧ tkK B n j ≠ 1) ∧ (tkK B n c = 0 ∨ tkK B n c = 1 ∨ c = 301) ∧ tksOK u B n c ∧ (c ≤ 300 → tksOK u B n (c + 1))) := by
  have h2 := hT.2.1
  refine M.ofG [some (.ref 4), some (.ref 1), none, none, none] (by decide) (Nat.le_of_ble_eq_true rfl) rfl ?_
  intro xp xe xs xm xa xb xme xc xad xA
  have fin : ∀ (c : Nat) (u : St) (y4 : Option Value), c ≤ 301 → tkFr st u → u.1 4 3 = nI c → (∀ j, j < c → tkK B n j ≠ 0 ∧ tkK B n j ≠ 1) → tksOK u B n c → (¬ tkP B n c < n ∨ c = 301) → G xp l xe (rmd (7)) xs xm xa xb xme xc D cy xad xA (YX10_split.2.1, YX10_split.1.cls, YX10_split.2.2.1, YX10_split.2.2.2) (Pv (fun (u : St) => tkFr st u ∧ ∃ c, c ≤ 301 ∧ u.1 4 3 = nI c ∧ (∀ j, j < c → tkK B n j ≠ 0 ∧ tkK B n j ≠ 1) ∧ (tkK B n c = 0 ∨ tkK B n c = 1 ∨ c = 301) ∧ tksOK u B n c ∧ (c ≤ 300 → tksOK u B n (c + 1)))) 77 ([some (.ref 4), some (.ref 1), some (.int (nI (tkP B n c))), some (.int (nI c)), y4]) ([]) (u) := by
    intro c u y4 hc hF hcc hall hk hend
    have hcl : (nI c).toNatClampNeg = c := nI_clamp (by omega)
    have hin : vp_in (nI c) 302 := vp_in_nI (by omega) (by decide)
    have hl9 : u.1 1 1 = nI n := by rw [hF.1 1 (by decide) (by decide) (by decide)]; exact hT.1
    refine g_ald0 eX10_split_77 ?_
    refine g_getR (ci := 9) (j := 0) rfl (Nat.le_of_ble_eq_true rfl) (Nat.le_of_ble_eq_true rfl) (Nat.le_of_ble_eq_true rfl) rfl rfl fl_X10_9 eX10_split_78 ?_
    refine g_ald0 eX10_split_81 ?_
    refine g_getI (ci := 9) (j := 3) rfl (Nat.le_of_ble_eq_true rfl) (Nat.le_of_ble_eq_true rfl) (Nat.le_of_ble_eq_true rfl) rfl fl_X10_20 eX10_split_82 ?_
    rw [hcc]
    refine g_iconst (v := 0) (by decide) eX10_split_85 ?_
    refine g_iast rfl (Nat.le_of_ble_eq_true rfl) hin eX10_split_86 ?_
    refine g_ald0 eX10_split_87 ?_
    refine g_getR (ci := 9) (j := 1) rfl (Nat.le_of_ble_eq_true rfl) (Nat.le_of_ble_eq_true rfl) (Nat.le_of_ble_eq_true rfl) rfl rfl fl_X10_13 eX10_split_88 ?_
    refine g_ald0 eX10_split_91 ?_
    refine g_getI (ci := 9) (j := 3) rfl (Nat.le_of_ble_eq_true rfl) (Nat.le_of_ble_eq_true rfl) (Nat.le_of_ble_eq_true rfl) rfl fl_X10_20 eX10_split_92 ?_
    rw [hcl, show (sI u 5 c 0).1 4 3 = nI c from hcc]
    refine g_ald1 eX10_split_95 ?_
    refine g_getI (ci := 8) (j := 1) rfl (Nat.le_of_ble_eq_true rfl) (Nat.le_of_ble_eq_true rfl) (Nat.le_of_ble_eq_true rfl) rfl fl_X10_28 eX10_split_96 ?_
    rw [show (sI u 5 c 0).1 1 1 = nI n from hl9]
    refine g_iast rfl (Nat.le_of_ble_eq_true rfl) hin eX10_split_99 ?_
    refine g_ald0 eX10_split_100 ?_
    refine g_getR (ci := 9) (j := 2) rfl (Nat.le_of_ble_eq_true rfl) (Nat.le_of_ble_eq_true rfl) (Nat.le_of_ble_eq_true rfl) rfl rfl fl_X10_16 eX10_split_101 ?_
    refine g_ald0 eX10_split_104 ?_
    refine g_getI (ci := 9) (j := 3) rfl (Nat.le_of_ble_eq_true rfl) (Nat.le_of_ble_eq_true rfl) (Nat.le_of_ble_eq_true rfl) rfl fl_X10_20 eX10_split_105 ?_
    rw [hcl, show (sI (sI u 5 c 0) 6 c (nI n)).1 4 3 = nI c from hcc]
    refine g_lconst (v := 0) rfl eX10_split_108 ?_
    refine g_last rfl (Nat.le_of_ble_eq_true rfl) hin eX10_split_109 ?_
    rw [hcl]
    refine g_vret rfl eX10_split_110 ⟨rfl, ?_⟩
    try dsimp only
    have e : sL (sI (sI u 5 c 0) 6 c (nI n)) 7 c 0 = tokS u c 0 n (lN 0) := by
      refine St_ext (fun a b => ?_) (fun a b => rfl)
      show (if a = 6 ∧ b = c then nI n else if a = 5 ∧ b = c then 0 else u.1 a b) = if a = 5 ∧ b = c then nI 0 else if a = 6 ∧ b = c then nI n else u.1 a b
      by_cases h5 : a = 5 ∧ b = c
      · rw [if_neg (fun q => by omega), if_pos h5, if_pos h5]; rfl
      · rw [if_neg h5, if_neg h5]
    rw [e]
    have hrest : tksOK (tokS u c 0 n (lN 0)) B n c := by
      intro j hj
      have e9 : j ≠ c := by omega
      rw [tokS_n1 _ _ _ _ _ _ e9, tokS_n1 _ _ _ _ _ _ e9, tokS_n2 _ _ _ _ _ _ e9]
      exact hk j hj
    refine ⟨tkFr_put hF _ _ _ _, c, hc, hcc, hall, ?_, hrest, fun h3 => ?_⟩
    · rcases hend with h | h
      · exact Or.inl (tkK_end.mpr h)
      · exact Or.inr (Or.inr h)
    · have hp : ¬ tkP B n c < n := by
        rcases hend with h | h
        · exact h
        · omega
      have hle := tkP_le (B := B) (n := n) c
      exact tks_put hk (tkK_end.mpr hp) (by omega) (by unfold tkV; rw [if_neg hp])
  have loop : ∀ (f c : Nat) (u : St) (y4 : Option Value), c + f = 301 → tkFr st u → u.1 4 3 = nI c → (∀ j, j < c → tkK B n j ≠ 0 ∧ tkK B n j ≠ 1) → tksOK u B n c → G xp l xe (rmd (7)) xs xm xa xb xme xc D cy xad xA (YX10_split.2.1, YX10_split.1.cls, YX10_split.2.2.1, YX10_split.2.2.2) (Pv (fun (u : St) => tkFr st u ∧ ∃ c, c ≤ 301 ∧ u.1 4 3 = nI c ∧ (∀ j, j < c → tkK B n j ≠ 0 ∧ tkK B n j ≠ 1) ∧ (tkK B n c = 0 ∨ tkK B n c = 1 ∨ c = 301) ∧ tksOK u B n c ∧ (c ≤ 300 → tksOK u B n (c + 1)))) 13 ([some (.ref 4), some (.ref 1), some (.int (nI (tkP B n c))), some (.int (nI c)), y4]) ([]) (u) := by
    intro f
    induction f with
    | zero =>
      intro c u y4 hc hF hcc hall hk
      refine g_ild3 eX10_split_13 ?_
      refine g_sipush (v := 300) (by decide) eX10_split_14 ?_
      refine g_icmp_gt eX10_split_17 (fun hb => ?_) (fun hb => ?_)
      · exact fin c u y4 (by omega) hF hcc hall hk (Or.inr (by omega))
      · exact absurd (nI_lt (a := 300) (b := c) (by omega) (by omega)) hb
    | succ f ih =>
      intro c u y4 hc hF hcc hall hk
      have hl9 : u.1 1 1 = nI n := by rw [hF.1 1 (by decide) (by decide) (by decide)]; exact hT.1
      have hTu : tapOK u B n := tap_row hT (hF.1 1 (by decide) (by decide) (by decide)) (hF.1 2 (by decide) (by decide) (by decide))
      have hple := tkP_le (B := B) (n := n) c
      refine g_ild3 eX10_split_13 ?_
      refine g_sipush (v := 300) (by decide) eX10_split_14 ?_
      refine g_icmp_gt eX10_split_17 (fun hb => ?_) (fun hb => ?_)
      · exact absurd hb (nI_nlt (a := 300) (b := c) (by omega) (by omega))
      · refine g_ild2 eX10_split_20 ?_
        refine g_ald1 eX10_split_21 ?_
        refine g_getI (ci := 8) (j := 1) rfl (Nat.le_of_ble_eq_true rfl) (Nat.le_of_ble_eq_true rfl) (Nat.le_of_ble_eq_true rfl) rfl fl_X10_28 eX10_split_22 ?_
        rw [hl9]
        refine g_icmp_ge eX10_split_25 (fun hb2 => ?_) (fun hb2 => ?_)
        · rw [nI_leI (by omega) (by omega)] at hb2
          exact fin c u y4 (by omega) hF hcc hall hk (Or.inl (by omega))
        · rw [nI_leI (by omega) (by omega)] at hb2
          have hlt : tkP B n c < n := by omega
          have hK : tkK B n c = kdF B n (tkP B n c) := by unfold tkK; rw [if_pos hlt]
          have hV : tkV B n c = vlF B n (tkP B n c) := by unfold tkV; rw [if_pos hlt]
          have her := endT_rng (B := B) hlt
          refine g_ald1 eX10_split_28 ?_
          refine g_ild2 eX10_split_29 ?_
          refine g_callSi (m_endOfToken u hTu _ hlt) cs_X10_33 eX10_split_30 ⟨Nat.le_of_ble_eq_true rfl, Nat.le_of_ble_eq_true rfl⟩ rfl rfl (Nat.le_of_ble_eq_true rfl) (fun r u h => ?_)
          obtain ⟨rfl, rfl⟩ := h
          refine g_ist4 rfl (Nat.le_of_ble_eq_true rfl) eX10_split_33 ?_
          refine g_ald0 eX10_split_35 ?_
          refine g_ald1 eX10_split_36 ?_
          refine g_ild2 eX10_split_37 ?_
          refine g_ild4 eX10_split_38 ?_
          refine g_callVv (ci := 9) (m_setKind u hTu _ hlt c hcc (by omega)) rfl (Nat.le_of_ble_eq_true rfl) (Nat.le_of_ble_eq_true rfl) rfl cv_X10_36 eX10_split_40 ⟨Nat.le_of_ble_eq_true rfl, Nat.le_of_ble_eq_true rfl⟩ rfl rfl (Nat.le_of_ble_eq_true rfl) (fun w h => ?_)
          subst h
          rw [← hK, ← hV]
          have hcl : (nI c).toNatClampNeg = c := nI_clamp (by omega)
          refine g_ald0 eX10_split_43 ?_
          refine g_getR (ci := 9) (j := 0) rfl (Nat.le_of_ble_eq_true rfl) (Nat.le_of_ble_eq_true rfl) (Nat.le_of_ble_eq_true rfl) rfl rfl fl_X10_9 eX10_split_44 ?_
          refine g_ild3 eX10_split_47 ?_
          refine g_iald rfl (Nat.le_of_ble_eq_true rfl) (vp_in_nI (n := c) (N := 302) (by omega) (by decide)) eX10_split_48 ?_
          refine g_iconst (v := 1) (by decide) eX10_split_49 ?_
          rw [hcl, show (tokS u c (tkK B n c) (tkP B n c) (lN (tkV B n c))).1 5 c = nI (tkK B n c) from if_pos ⟨rfl, rfl⟩]
          have hput := tks_put hk rfl rfl rfl
          have hFp := tkFr_put hF c (tkK B n c) (tkP B n c) (lN (tkV B n c))
          have hkk : tkK B n c < 256 := by
            rw [hK]
            have := wordK_ne (wdF B (tkP B n c) (endT B n (tkP B n c) - tkP B n c))
            have := (hT.2.2 _ hlt).2
            unfold kdF
            repeat' split
            all_goals omega
          refine g_icmp_ne eX10_split_50 (fun hb3 => ?_) (fun hb3 => ?_)
          · rw [show (1 : Int32) = nI 1 from rfl, nI_eq (by omega) (by omega)] at hb3
            refine g_ald0 eX10_split_54 ?_
            refine g_dup rfl eX10_split_55 ?_
            refine g_getI (ci := 9) (j := 3) rfl (Nat.le_of_ble_eq_true rfl) (Nat.le_of_ble_eq_true rfl) (Nat.le_of_ble_eq_true rfl) rfl fl_X10_20 eX10_split_56 ?_
            refine g_iconst (v := 1) (by decide) eX10_split_59 ?_
            rw [show (tokS u c (tkK B n c) (tkP B n c) (lN (tkV B n c))).1 4 3 = nI c from hcc]
            refine g_iadd eX10_split_60 ?_
            refine g_putI (ci := 9) (j := 3) rfl rfl (Nat.le_of_ble_eq_true rfl) (Nat.le_of_ble_eq_true rfl) (Nat.le_of_ble_eq_true rfl) rfl fl_X10_20 eX10_split_61 ?_
            refine g_ald1 eX10_split_64 ?_
            refine g_ild4 eX10_split_65 ?_
            rw [show nI c + 1 = nI (c + 1) from nI_1 c]
            have hTw : tapOK (sI (tokS u c (tkK B n c) (tkP B n c) (lN (tkV B n c))) 4 3 (nI (c + 1))) B n := by
              have hq := tkFr_cnt hFp 3 (nI (c + 1))
              exact tap_row hT (hq.1 1 (by decide) (by decide) (by decide)) (hq.1 2 (by decide) (by decide) (by decide))
            refine g_callSi (m_afterBlanks _ hTw _ her.2 _ rfl) cs_X10_24 eX10_split_67 ⟨Nat.le_of_ble_eq_true rfl, Nat.le_of_ble_eq_true rfl⟩ rfl rfl (Nat.le_of_ble_eq_true rfl) (fun r u9 h => ?_)
            obtain ⟨rfl, rfl⟩ := h
            refine g_ist2 rfl (Nat.le_of_ble_eq_true rfl) eX10_split_70 ?_
            refine g_inc3 rfl (Nat.le_of_ble_eq_true rfl) rfl eX10_split_71 ?_
            refine g_goto eX10_split_74 ?_
            rw [inc1, ← tkP_go hlt]
            refine ih (c + 1) _ _ (by omega) (tkFr_cnt hFp _ _) ?_ (fun j hj => ?_) (tks_cnt hput)
            · rw [sI_1, if_pos ⟨rfl, rfl⟩]
            · by_cases e : j = c
              · rw [e]; exact ⟨fun q => absurd hlt (tkK_end.mp q), hb3⟩
              · exact hall j (by omega)
          · have hb4 : tkK B n c = 1 := (nI_eq (a := tkK B n c) (b := 1) (by omega) (by omega)).mp hb3
            refine g_vret rfl eX10_split_53 ⟨rfl, ?_⟩
            try dsimp only
            exact ⟨hFp, c, by omega, hcc, hall, Or.inr (Or.inl hb4), fun j hj => hput j (by omega), fun _ => hput⟩
  refine g_ald0 eX10_split_0 ?_
  refine g_iconst (v := 0) (by decide) eX10_split_1 ?_
  refine g_putI (ci := 9) (j := 3) rfl rfl (Nat.le_of_ble_eq_true rfl) (Nat.le_of_ble_eq_true rfl) (Nat.le_of_ble_eq_true rfl) rfl fl_X10_20 eX10_split_2 ?_
  refine g_ald1 eX10_split_5 ?_
  refine g_iconst (v := 0) (by decide) eX10_split_6 ?_
  have hT0 : tapOK (sI st 4 3 0) B n := tap_row hT rfl rfl
  refine g_callSi (m_afterBlanks _ hT0 0 (Nat.zero_le _) 0 rfl) cs_X10_24 eX10_split_7 ⟨Nat.le_of_ble_eq_true rfl, Nat.le_of_ble_eq_true rfl⟩ rfl rfl (Nat.le_of_ble_eq_true rfl) (fun r u h => ?_)
  obtain ⟨rfl, rfl⟩ := h
  refine g_ist2 rfl (Nat.le_of_ble_eq_true rfl) eX10_split_10 ?_
  refine g_iconst (v := 0) (by decide) eX10_split_11 ?_
  refine g_ist3 rfl (Nat.le_of_ble_eq_true rfl) eX10_split_12 ?_
  exact loop 301 0 _ _ rfl (tkFr_cnt ⟨fun _ _ _ _ => rfl, fun _ _ => rfl⟩ _ _) (by rw [sI_1, if_pos ⟨rfl, rfl⟩]; rfl) (fun j hj => absurd hj (Nat.not_lt_zero _)) (fun j hj => absurd hj (Nat.not_lt_zero _))
end TOKD
