/-! parts, part, spoil: the model -/
section PARTH
variable {l : Launch} {D : va_G} {cy : Nat → ClassId}
def mN (st : St) (i : Nat) : Nat := (st.1 78 i).toInt.toNat
def mKn (st : St) (i : Nat) : Nat := (st.1 79 i).toInt.toNat
def mptOK (st : St) (i n k : Nat) : Prop := st.1 78 i = nI n ∧ n ≤ 6 ∧ st.1 79 i = nI k ∧ k ≤ 6 ∧ ∀ j, 1 ≤ j → j < 7 → 0 ≤ mptY st i j ∧ mptY st i j < 100003
def mptsOK (st : St) (nk : Nat) : Prop := ∀ i, i < nk → mptOK st i (mN st i) (mKn st i) ∧ (0 < mN st i → 1 ≤ mKn st i)
theorem w_isPart (st : St) {nk : Nat} (hk : st.1 31 53 = nI nk) (h4 : nk ≤ 4) (hp : mptsOK st nk) (k j : Int32) : Mi l D cy 1 YX12_isPart [.ref 31, .int k, .int j] st (fun r u => u = st ∧ r = b2 ((isS nk k ∧ 0 < mN st (qI k)) ∧ 1 ≤ j.toInt ∧ j.toInt ≤ mN st (qI k))) := by
  have hkc : (st.1 31 53).toInt = nk := by rw [hk, nI_toInt (by omega)]
  refine M.ofG [some (.ref 31), some (.int k), some (.int j)] (by decide) (Nat.le_of_ble_eq_true rfl) rfl ?_
  intro xp xe xs xm xa xb xme xc xad xA
  refine g_ald0 eX12_isPart_0 ?_
  refine g_ild1 eX12_isPart_1 ?_
  refine g_callVi (ci := 11) (w_isKey _ k) rfl (Nat.le_of_ble_eq_true rfl) (Nat.le_of_ble_eq_true rfl) rfl cv_X12_388 eX12_isPart_2 ⟨Nat.le_of_ble_eq_true rfl, Nat.le_of_ble_eq_true rfl⟩ rfl rfl (Nat.le_of_ble_eq_true rfl) (fun r st h => ?_)
  obtain ⟨rfl, rfl⟩ := h
  rw [hkc]
  refine g_if_eq eX12_isPart_5 (fun hb => ?_) (fun hb => ?_)
  · rw [b2_eq0] at hb
    refine g_iconst (v := 0) (by decide) eX12_isPart_26 ?_
    refine g_zret (ty := .boolean) rfl (by first | rfl | assumption) eX12_isPart_27 ⟨_, rfl, ?_⟩
    try dsimp only
    exact ⟨rfl, b2_f (fun h => hb h.1.1)⟩
  · rw [b2_ne0] at hb
    have hC := hb
    obtain ⟨i, hik, rfl⟩ := as_nI hb
    have hi : i < 4 := by omega
    have e : qI (nI i) = i := nI_clamp (by omega)
    have hpi := (hp i hik).1
    have h6 := hpi.2.1
    refine g_ild2 eX12_isPart_8 ?_
    refine g_iconst (v := 1) (by decide) eX12_isPart_9 ?_
    refine g_ald0 eX12_isPart_10 ?_
    refine g_getR (ci := 11) (j := 73) rfl (Nat.le_of_ble_eq_true rfl) (Nat.le_of_ble_eq_true rfl) (Nat.le_of_ble_eq_true rfl) rfl rfl fl_X12_155 eX12_isPart_11 ?_
    refine g_ild1 eX12_isPart_14 ?_
    refine g_iald rfl (Nat.le_of_ble_eq_true rfl) (vp_in_nI (n := i) (N := 4) hi (by decide)) eX12_isPart_15 ?_
    rw [show (nI i).toNatClampNeg = i from e, hpi.1]
    refine g_callSi (w_in _ j 1 _) cs_X12_378 eX12_isPart_16 ⟨Nat.le_of_ble_eq_true rfl, Nat.le_of_ble_eq_true rfl⟩ rfl rfl (Nat.le_of_ble_eq_true rfl) (fun r st h => ?_)
    obtain ⟨rfl, rfl⟩ := h
    refine g_if_eq eX12_isPart_19 (fun hb2 => ?_) (fun hb2 => ?_)
    · rw [b2_eq0, nI_toInt (by omega)] at hb2
      refine g_iconst (v := 0) (by decide) eX12_isPart_26 ?_
      refine g_zret (ty := .boolean) rfl (by first | rfl | assumption) eX12_isPart_27 ⟨_, rfl, ?_⟩
      try dsimp only
      refine ⟨rfl, b2_f (fun h => hb2 ?_)⟩
      have := h.2
      rw [e] at this
      exact this
    · rw [b2_ne0, nI_toInt (by omega)] at hb2
      have hb3 : 1 ≤ j.toInt ∧ j.toInt ≤ (mN st i : Int) := hb2
      refine g_iconst (v := 1) (by decide) eX12_isPart_22 ?_
      refine g_goto eX12_isPart_23 ?_
      refine g_zret (ty := .boolean) rfl (by first | rfl | assumption) eX12_isPart_27 ⟨_, rfl, ?_⟩
      try dsimp only
      refine ⟨rfl, b2_t ⟨⟨hC, ?_⟩, ?_⟩⟩
      · rw [e]; omega
      · rw [e]; exact hb3
theorem w_part (st s1 : St) (hT : sI st 31 18 0 = s1) {nk : Nat} (hk : s1.1 31 53 = nI nk) (h4 : nk ≤ 4) (hp : mptsOK s1 nk) (k j : Int32) : Mi l D cy 2 YX12_part [.ref 31, .int k, .int j] st (fun r u => u = s1 ∧ r.toInt = if (isS nk k ∧ 0 < mN s1 (qI k)) ∧ 1 ≤ j.toInt ∧ j.toInt ≤ mN s1 (qI k) then mptY s1 (qI k) (qI j) else -1) := by
  refine M.ofG [some (.ref 31), some (.int k), some (.int j)] (by decide) (Nat.le_of_ble_eq_true rfl) rfl ?_
  intro xp xe xs xm xa xb xme xc xad xA
  refine g_ald0 eX12_part_0 ?_
  refine g_iconst (v := 0) (by decide) eX12_part_1 ?_
  refine g_putI (ci := 11) (j := 18) rfl rfl (Nat.le_of_ble_eq_true rfl) (Nat.le_of_ble_eq_true rfl) (Nat.le_of_ble_eq_true rfl) rfl fl_X12_177 eX12_part_2 ?_
  rw [hT]
  refine g_ald0 eX12_part_5 ?_
  refine g_ild1 eX12_part_6 ?_
  refine g_ild2 eX12_part_7 ?_
  refine g_callVi (ci := 11) (w_isPart _ hk h4 hp k j) rfl (Nat.le_of_ble_eq_true rfl) (Nat.le_of_ble_eq_true rfl) rfl cv_X12_495 eX12_part_8 ⟨Nat.le_of_ble_eq_true rfl, Nat.le_of_ble_eq_true rfl⟩ rfl rfl (Nat.le_of_ble_eq_true rfl) (fun r s1 h => ?_)
  obtain ⟨rfl, rfl⟩ := h
  refine g_if_eq eX12_part_11 (fun hb => ?_) (fun hb => ?_)
  · rw [b2_eq0] at hb
    refine g_iconst (v := (-1)) (by decide) eX12_part_31 ?_
    refine g_iret rfl eX12_part_32 ⟨_, rfl, ?_⟩
    try dsimp only
    rw [if_neg hb]
    exact ⟨rfl, rfl⟩
  · rw [b2_ne0] at hb
    have hC := hb
    obtain ⟨i, hik, rfl⟩ := as_nI hb.1.1
    have hi : i < 4 := by omega
    have e : qI (nI i) = i := nI_clamp (by omega)
    have hpi := (hp i hik).1
    have h6 := hpi.2.1
    rw [e] at hb
    obtain ⟨a, ha, rfl⟩ := as_nI (x := j) (n := 7) (by omega)
    have ea : qI (nI a) = a := nI_clamp (by omega)
    rw [nI_toInt (by omega)] at hb
    have ha1 : 1 ≤ a := by omega
    refine g_ald0 eX12_part_14 ?_
    refine g_getR (ci := 11) (j := 75) rfl (Nat.le_of_ble_eq_true rfl) (Nat.le_of_ble_eq_true rfl) (Nat.le_of_ble_eq_true rfl) rfl rfl fl_X12_161 eX12_part_15 ?_
    refine g_bipush (v := 6) (by decide) eX12_part_18 ?_
    refine g_ild1 eX12_part_20 ?_
    refine g_imul eX12_part_21 ?_
    refine g_ild2 eX12_part_22 ?_
    refine g_iadd eX12_part_23 ?_
    refine g_iconst (v := 1) (by decide) eX12_part_24 ?_
    refine g_isub eX12_part_25 ?_
    rw [ix6 ha1]
    refine g_lald rfl (Nat.le_of_ble_eq_true rfl) (vp_in_nI (n := 6 * i + a - 1) (N := 24) (by omega) (by decide)) eX12_part_26 ?_
    rw [nI_clamp (by omega)]
    have hr := hpi.2.2.2.2 a ha1 ha
    refine g_l2i eX12_part_27 ?_
    refine g_goto eX12_part_28 ?_
    refine g_iret rfl eX12_part_32 ⟨_, rfl, ?_⟩
    try dsimp only
    rw [if_pos hC, e, ea]
    refine ⟨rfl, ?_⟩
    unfold mptY at hr ⊢
    exact l2i (by omega) (by omega)
theorem w_spoil (st s1 : St) (hT : sI st 31 18 0 = s1) {nk : Nat} (hk : s1.1 31 53 = nI nk) (h4 : nk ≤ 4) (hp : mptsOK s1 nk) (k j v : Int32) : Mi l D cy 2 YX12_spoil [.ref 31, .int k, .int j, .int v] st (fun r u => if ((isS nk k ∧ 0 < mN s1 (qI k)) ∧ 1 ≤ j.toInt ∧ j.toInt ≤ mN s1 (qI k)) ∧ 0 ≤ v.toInt ∧ v.toInt < 100003 then r = 1 ∧ u = sL s1 80 (6 * qI k + qI j - 1) v.toInt64 else r = 0 ∧ u = s1) := by
  have eP : (100002 : Int32).toInt = 100002 := rfl
  refine M.ofG [some (.ref 31), some (.int k), some (.int j), some (.int v)] (by decide) (Nat.le_of_ble_eq_true rfl) rfl ?_
  intro xp xe xs xm xa xb xme xc xad xA
  refine g_ald0 eX12_spoil_0 ?_
  refine g_iconst (v := 0) (by decide) eX12_spoil_1 ?_
  refine g_putI (ci := 11) (j := 18) rfl rfl (Nat.le_of_ble_eq_true rfl) (Nat.le_of_ble_eq_true rfl) (Nat.le_of_ble_eq_true rfl) rfl fl_X12_177 eX12_spoil_2 ?_
  rw [hT]
  refine g_ald0 eX12_spoil_5 ?_
  refine g_ild1 eX12_spoil_6 ?_
  refine g_ild2 eX12_spoil_7 ?_
  refine g_callVi (ci := 11) (w_isPart _ hk h4 hp k j) rfl (Nat.le_of_ble_eq_true rfl) (Nat.le_of_ble_eq_true rfl) rfl cv_X12_495 eX12_spoil_8 ⟨Nat.le_of_ble_eq_true rfl, Nat.le_of_ble_eq_true rfl⟩ rfl rfl (Nat.le_of_ble_eq_true rfl) (fun r s1 h => ?_)
  obtain ⟨rfl, rfl⟩ := h
  refine g_if_eq eX12_spoil_11 (fun hb => ?_) (fun hb => ?_)
  · rw [b2_eq0] at hb
    refine g_iconst (v := 0) (by decide) eX12_spoil_25 ?_
    refine g_zret (ty := .boolean) rfl (by first | rfl | assumption) eX12_spoil_26 ⟨_, rfl, ?_⟩
    try dsimp only
    rw [if_neg (fun h => hb h.1)]
    exact ⟨rfl, rfl⟩
  · rw [b2_ne0] at hb
    have hC := hb
    refine g_ild3 eX12_spoil_14 ?_
    refine g_iconst (v := 0) (by decide) eX12_spoil_15 ?_
    refine g_ldcw kc_X12_498 eX12_spoil_16 ?_
    refine g_callSi (w_in _ v 0 _) cs_X12_378 eX12_spoil_19 ⟨Nat.le_of_ble_eq_true rfl, Nat.le_of_ble_eq_true rfl⟩ rfl rfl (Nat.le_of_ble_eq_true rfl) (fun r s1 h => ?_)
    obtain ⟨rfl, rfl⟩ := h
    rw [z32, eP]
    refine g_if_ne eX12_spoil_22 (fun hb2 => ?_) (fun hb2 => ?_)
    · rw [b2_ne0] at hb2
      obtain ⟨i, hik, rfl⟩ := as_nI hb.1.1
      have hi : i < 4 := by omega
      have e : qI (nI i) = i := nI_clamp (by omega)
      have hpi := (hp i hik).1
      have h6 := hpi.2.1
      rw [e] at hb
      obtain ⟨a, ha, rfl⟩ := as_nI (x := j) (n := 7) (by omega)
      have ea : qI (nI a) = a := nI_clamp (by omega)
      rw [nI_toInt (by omega)] at hb
      have ha1 : 1 ≤ a := by omega
      refine g_ald0 eX12_spoil_27 ?_
      refine g_getR (ci := 11) (j := 75) rfl (Nat.le_of_ble_eq_true rfl) (Nat.le_of_ble_eq_true rfl) (Nat.le_of_ble_eq_true rfl) rfl rfl fl_X12_161 eX12_spoil_28 ?_
      refine g_bipush (v := 6) (by decide) eX12_spoil_31 ?_
      refine g_ild1 eX12_spoil_33 ?_
      refine g_imul eX12_spoil_34 ?_
      refine g_ild2 eX12_spoil_35 ?_
      refine g_iadd eX12_spoil_36 ?_
      refine g_iconst (v := 1) (by decide) eX12_spoil_37 ?_
      refine g_isub eX12_spoil_38 ?_
      rw [ix6 ha1]
      refine g_ild3 eX12_spoil_39 ?_
      refine g_i2l eX12_spoil_40 ?_
      refine g_last rfl (Nat.le_of_ble_eq_true rfl) (vp_in_nI (n := 6 * i + a - 1) (N := 24) (by omega) (by decide)) eX12_spoil_41 ?_
      rw [nI_clamp (by omega)]
      refine g_iconst (v := 1) (by decide) eX12_spoil_42 ?_
      refine g_zret (ty := .boolean) rfl (by first | rfl | assumption) eX12_spoil_43 ⟨_, rfl, ?_⟩
      try dsimp only
      rw [if_pos ⟨hC, hb2.1, by omega⟩, e, ea]
      exact ⟨rfl, rfl⟩
    · rw [b2_eq0] at hb2
      refine g_iconst (v := 0) (by decide) eX12_spoil_25 ?_
      refine g_zret (ty := .boolean) rfl (by first | rfl | assumption) eX12_spoil_26 ⟨_, rfl, ?_⟩
      try dsimp only
      rw [if_neg (fun h => hb2 (by have := h.2; omega))]
      exact ⟨rfl, rfl⟩
def dealM (st : St) (i n k : Nat) (f : Nat → Int64) : St := sLR (sI (sI st 78 i (nI n)) 79 i (nI k)) 80 f
theorem w_parts (st s1 : St) (hT : sI st 31 18 0 = s1) {nk n : Nat} (hx : mOK s1 nk n) (k a b seed : Int32) : Mi l D cy 2 YX12_parts [.ref 31, .int k, .int a, .int b, .int seed] st (fun r u => if isS nk k ∧ (2 ≤ a.toInt ∧ a.toInt ≤ 6) ∧ 1 ≤ b.toInt ∧ b.toInt ≤ a.toInt then r = 1 ∧ ∃ f, u = dealM s1 (qI k) (qI a) (qI b) f ∧ (∀ j : Nat, 1 ≤ j → j ≤ qI a → (f (6 * qI k + j - 1)).toInt = dlF (mP s1 (qI k)) seed (qI b) j) ∧ ∀ z, (∀ j, 1 ≤ j → j ≤ qI a → z ≠ 6 * qI k + j - 1) → f z = s1.2 80 z else r = 0 ∧ u = s1) := by
  obtain ⟨x1, x2, x3, x4, x5, x6, x7, x8, x9⟩ := hx
  have hkc : (s1.1 31 53).toInt = nk := by rw [x1, nI_toInt (by omega)]
  have eP : (100003 : Int32).toInt = 100003 := rfl
  have hne : ¬ (100003 : Int64) = 0 := by decide
  refine M.ofG [some (.ref 31), some (.int k), some (.int a), some (.int b), some (.int seed), none, none, none, none, none, none] (by decide) (Nat.le_of_ble_eq_true rfl) rfl ?_
  intro xp xe xs xm xa xb xme xc xad xA
  have bad : ¬ (isS nk k ∧ (2 ≤ a.toInt ∧ a.toInt ≤ 6) ∧ 1 ≤ b.toInt ∧ b.toInt ≤ a.toInt) → G xp l xe (rmd (2)) xs xm xa xb xme xc D cy xad xA (YX12_parts.2.1, YX12_parts.1.cls, YX12_parts.2.2.1, YX12_parts.2.2.2) (Pi (fun (r : Int32) (u : St) => if isS nk k ∧ (2 ≤ a.toInt ∧ a.toInt ≤ 6) ∧ 1 ≤ b.toInt ∧ b.toInt ≤ a.toInt then r = 1 ∧ ∃ f, u = dealM s1 (qI k) (qI a) (qI b) f ∧ (∀ j : Nat, 1 ≤ j → j ≤ qI a → (f (6 * qI k + j - 1)).toInt = dlF (mP s1 (qI k)) seed (qI b) j) ∧ ∀ z, (∀ j, 1 ≤ j → j ≤ qI a → z ≠ 6 * qI k + j - 1) → f z = s1.2 80 z else r = 0 ∧ u = s1)) 32 ([some (.ref 31), some (.int k), some (.int a), some (.int b), some (.int seed), none, none, none, none, none, none]) ([]) (s1) := by
    intro h
    refine g_iconst (v := 0) (by decide) eX12_parts_32 ?_
    refine g_zret (ty := .boolean) rfl (by first | rfl | assumption) eX12_parts_33 ⟨_, rfl, ?_⟩
    try dsimp only
    rw [if_neg h]
    exact ⟨rfl, rfl⟩
  refine g_ald0 eX12_parts_0 ?_
  refine g_iconst (v := 0) (by decide) eX12_parts_1 ?_
  refine g_putI (ci := 11) (j := 18) rfl rfl (Nat.le_of_ble_eq_true rfl) (Nat.le_of_ble_eq_true rfl) (Nat.le_of_ble_eq_true rfl) rfl fl_X12_177 eX12_parts_2 ?_
  rw [hT]
  refine g_ald0 eX12_parts_5 ?_
  refine g_ild1 eX12_parts_6 ?_
  refine g_callVi (ci := 11) (w_isKey _ k) rfl (Nat.le_of_ble_eq_true rfl) (Nat.le_of_ble_eq_true rfl) rfl cv_X12_388 eX12_parts_7 ⟨Nat.le_of_ble_eq_true rfl, Nat.le_of_ble_eq_true rfl⟩ rfl rfl (Nat.le_of_ble_eq_true rfl) (fun r s1 h => ?_)
  obtain ⟨rfl, rfl⟩ := h
  rw [hkc]
  refine g_if_eq eX12_parts_10 (fun hb => ?_) (fun hb => ?_)
  · rw [b2_eq0] at hb
    exact bad (fun h => hb h.1)
  · rw [b2_ne0] at hb
    refine g_ild2 eX12_parts_13 ?_
    refine g_iconst (v := 2) (by decide) eX12_parts_14 ?_
    refine g_bipush (v := 6) (by decide) eX12_parts_15 ?_
    refine g_callSi (w_in _ a 2 6) cs_X12_378 eX12_parts_17 ⟨Nat.le_of_ble_eq_true rfl, Nat.le_of_ble_eq_true rfl⟩ rfl rfl (Nat.le_of_ble_eq_true rfl) (fun r s1 h => ?_)
    obtain ⟨rfl, rfl⟩ := h
    refine g_if_eq eX12_parts_20 (fun hb2 => ?_) (fun hb2 => ?_)
    · rw [b2_eq0] at hb2
      exact bad (fun h => hb2 h.2.1)
    · rw [b2_ne0] at hb2
      have hb3 : 2 ≤ a.toInt ∧ a.toInt ≤ 6 := hb2
      refine g_ild3 eX12_parts_23 ?_
      refine g_iconst (v := 1) (by decide) eX12_parts_24 ?_
      refine g_ild2 eX12_parts_25 ?_
      refine g_callSi (w_in _ b 1 a) cs_X12_378 eX12_parts_26 ⟨Nat.le_of_ble_eq_true rfl, Nat.le_of_ble_eq_true rfl⟩ rfl rfl (Nat.le_of_ble_eq_true rfl) (fun r s1 h => ?_)
      obtain ⟨rfl, rfl⟩ := h
      refine g_if_ne eX12_parts_29 (fun hb4 => ?_) (fun hb4 => ?_)
      · rw [b2_ne0] at hb4
        have hb5 : 1 ≤ b.toInt ∧ b.toInt ≤ a.toInt := hb4
        have hOK : isS nk k ∧ (2 ≤ a.toInt ∧ a.toInt ≤ 6) ∧ 1 ≤ b.toInt ∧ b.toInt ≤ a.toInt := ⟨hb, hb3, hb5⟩
        clear hb2 hb4
        obtain ⟨i, hik, rfl⟩ := as_nI hb
        have hi : i < 4 := by omega
        have e : qI (nI i) = i := nI_clamp (by omega)
        obtain ⟨n9, hn9, rfl⟩ := as_nI (x := a) (n := 7) (by omega)
        obtain ⟨k9, hk9, rfl⟩ := as_nI (x := b) (n := 7) (by omega)
        have en : qI (nI n9) = n9 := nI_clamp (by omega)
        have ek : qI (nI k9) = k9 := nI_clamp (by omega)
        rw [nI_toInt (by omega)] at hb3 hb5
        rw [nI_toInt (by omega)] at hb5
        have eC : (nI i).toNatClampNeg = i := e
        have hky := x6 i hik
        have hky1 := hky.1
        have hky2 := hky.2.1
        have hin4 : vp_in (nI i) 4 := vp_in_nI (n := i) (N := 4) hi (by decide)
        refine g_ald0 eX12_parts_34 ?_
        refine g_getR (ci := 11) (j := 73) rfl (Nat.le_of_ble_eq_true rfl) (Nat.le_of_ble_eq_true rfl) (Nat.le_of_ble_eq_true rfl) rfl rfl fl_X12_155 eX12_parts_35 ?_
        refine g_ild1 eX12_parts_38 ?_
        refine g_ild2 eX12_parts_39 ?_
        refine g_iast rfl (Nat.le_of_ble_eq_true rfl) hin4 eX12_parts_40 ?_
        refine g_ald0 eX12_parts_41 ?_
        refine g_getR (ci := 11) (j := 74) rfl (Nat.le_of_ble_eq_true rfl) (Nat.le_of_ble_eq_true rfl) (Nat.le_of_ble_eq_true rfl) rfl rfl fl_X12_158 eX12_parts_42 ?_
        refine g_ild1 eX12_parts_45 ?_
        refine g_ild3 eX12_parts_46 ?_
        refine g_iast rfl (Nat.le_of_ble_eq_true rfl) hin4 eX12_parts_47 ?_
        rw [eC]
        have e9 : sI (sI s1 78 i (nI n9)) 79 i (nI k9) = dealM s1 i n9 k9 (s1.2 80) := by
          unfold dealM
          exact (sLR_same _ _).symm
        rw [e9]
        refine g_iconst (v := 1) (by decide) eX12_parts_48 ?_
        refine g_ist5 rfl (Nat.le_of_ble_eq_true rfl) eX12_parts_49 ?_
        have hP : ∀ f, (dealM s1 i n9 k9 f).1 63 = s1.1 63 := fun f => by
          unfold dealM
          rw [sLR_1, sI_row (by decide), sI_row (by decide)]
        have outer : ∀ (d j : Nat) (f : Nat → Int64) (y6 y8 y10 : Option Value), j + d = n9 + 1 → 1 ≤ j → (∀ c : Nat, 1 ≤ c → c < j → (f (6 * i + c - 1)).toInt = dlF (mP s1 i) seed k9 c) → (∀ z, (∀ c, 1 ≤ c → c < j → z ≠ 6 * i + c - 1) → f z = s1.2 80 z) → G xp l xe (rmd (2)) xs xm xa xb xme xc D cy xad xA (YX12_parts.2.1, YX12_parts.1.cls, YX12_parts.2.2.1, YX12_parts.2.2.2) (Pi (fun (r : Int32) (u : St) => if isS nk (nI i) ∧ (2 ≤ (nI n9).toInt ∧ (nI n9).toInt ≤ 6) ∧ 1 ≤ (nI k9).toInt ∧ (nI k9).toInt ≤ (nI n9).toInt then r = 1 ∧ ∃ f, u = dealM s1 (qI (nI i)) (qI (nI n9)) (qI (nI k9)) f ∧ (∀ j : Nat, 1 ≤ j → j ≤ qI (nI n9) → (f (6 * qI (nI i) + j - 1)).toInt = dlF (mP s1 (qI (nI i))) seed (qI (nI k9)) j) ∧ ∀ z, (∀ j, 1 ≤ j → j ≤ qI (nI n9) → z ≠ 6 * qI (nI i) + j - 1) → f z = s1.2 80 z else r = 0 ∧ u = s1)) 51 ([some (.ref 31), some (.int (nI i)), some (.int (nI n9)), some (.int (nI k9)), some (.int seed), some (.int (nI j)), y6, none, y8, none, y10]) ([]) (dealM s1 i n9 k9 f) := by
          intro d
          induction d with
          | zero =>
            intro j f y6 y8 y10 hj hj1 hf hf2
            refine g_ild5 eX12_parts_51 ?_
            refine g_ild2 eX12_parts_53 ?_
            refine g_icmp_gt eX12_parts_54 (fun hb7 => ?_) (fun hb7 => ?_)
            · refine g_iconst (v := 1) (by decide) eX12_parts_145 ?_
              refine g_zret (ty := .boolean) rfl (by first | rfl | assumption) eX12_parts_146 ⟨_, rfl, ?_⟩
              try dsimp only
              rw [if_pos hOK, e, en, ek]
              exact ⟨rfl, f, rfl, fun c h1 h2 => hf c h1 (by omega), fun z h => hf2 z (fun c h1 h2 => h c h1 (by omega))⟩
            · exact absurd (nI_lt (a := n9) (b := j) (by omega) (by omega)) hb7
          | succ d ih =>
            intro j f y6 y8 y10 hj hj1 hf hf2
            have ej : (nI j).toInt = j := nI_toInt (by omega)
            have inner : ∀ (dd a : Nat) (y z : Int64), a + dd = k9 → 1 ≤ a → y.toInt = powS (fun m => lotF seed (nI m) 100003) (j : Int) (mP s1 i) (a - 1) % 100003 → z.toInt = (j : Int) ^ (a - 1) % 100003 → G xp l xe (rmd (2)) xs xm xa xb xme xc D cy xad xA (YX12_parts.2.1, YX12_parts.1.cls, YX12_parts.2.2.1, YX12_parts.2.2.2) (Pi (fun (r : Int32) (u : St) => if isS nk (nI i) ∧ (2 ≤ (nI n9).toInt ∧ (nI n9).toInt ≤ 6) ∧ 1 ≤ (nI k9).toInt ∧ (nI k9).toInt ≤ (nI n9).toInt then r = 1 ∧ ∃ f, u = dealM s1 (qI (nI i)) (qI (nI n9)) (qI (nI k9)) f ∧ (∀ j : Nat, 1 ≤ j → j ≤ qI (nI n9) → (f (6 * qI (nI i) + j - 1)).toInt = dlF (mP s1 (qI (nI i))) seed (qI (nI k9)) j) ∧ ∀ z, (∀ j, 1 ≤ j → j ≤ qI (nI n9) → z ≠ 6 * qI (nI i) + j - 1) → f z = s1.2 80 z else r = 0 ∧ u = s1)) 72 ([some (.ref 31), some (.int (nI i)), some (.int (nI n9)), some (.int (nI k9)), some (.int seed), some (.int (nI j)), some (.long y), none, some (.long z), none, some (.int (nI a))]) ([]) (dealM s1 i n9 k9 f) := by
              intro dd
              induction dd with
              | zero =>
                intro a y z ha ha1 hy hz
                have hyr : 0 ≤ y.toInt ∧ y.toInt < 100003 := by rw [hy]; exact ⟨Int.emod_nonneg _ (by decide), Int.emod_lt_of_pos _ (by decide)⟩
                refine g_ild10 eX12_parts_72 ?_
                refine g_ild3 eX12_parts_74 ?_
                refine g_icmp_ge eX12_parts_75 (fun hb8 => ?_) (fun hb8 => ?_)
                · refine g_ald0 eX12_parts_119 ?_
                  refine g_getR (ci := 11) (j := 75) rfl (Nat.le_of_ble_eq_true rfl) (Nat.le_of_ble_eq_true rfl) (Nat.le_of_ble_eq_true rfl) rfl rfl fl_X12_161 eX12_parts_120 ?_
                  refine g_bipush (v := 6) (by decide) eX12_parts_123 ?_
                  refine g_ild1 eX12_parts_125 ?_
                  refine g_imul eX12_parts_126 ?_
                  refine g_ild5 eX12_parts_127 ?_
                  refine g_iadd eX12_parts_129 ?_
                  refine g_iconst (v := 1) (by decide) eX12_parts_130 ?_
                  refine g_isub eX12_parts_131 ?_
                  rw [ix6 hj1]
                  refine g_lld6 eX12_parts_132 ?_
                  refine g_ldc2 kc_X12_492 eX12_parts_134 ?_
                  refine g_lrem hne eX12_parts_137 ?_
                  refine g_last rfl (Nat.le_of_ble_eq_true rfl) (vp_in_nI (n := 6 * i + j - 1) (N := 24) (by omega) (by decide)) eX12_parts_138 ?_
                  rw [nI_clamp (by omega)]
                  have ey := rem64p (x := y) (y := 100003) hyr.1 (by decide)
                  rw [P64, hy, Int.emod_emod] at ey
                  generalize y - y / 100003 * 100003 = y2 at ey ⊢
                  have eS : sL (dealM s1 i n9 k9 f) 80 (6 * i + j - 1) y2 = dealM s1 i n9 k9 (vp_updL f (6 * i + j - 1) y2) := by
                    unfold dealM
                    rw [sL_sLR]
                  rw [eS]
                  refine g_inc5 rfl (Nat.le_of_ble_eq_true rfl) rfl eX12_parts_139 ?_
                  refine g_goto eX12_parts_142 ?_
                  rw [inc1]
                  refine ih (j + 1) _ _ _ _ (by omega) (by omega) (fun c h1 h2 => ?_) (fun z9 h => ?_)
                  · by_cases hcj : c = j
                    · rw [hcj, show vp_updL f (6 * i + j - 1) y2 (6 * i + j - 1) = y2 from if_pos rfl, ey]
                      unfold dlF
                      rw [show k9 - 1 = a - 1 by omega]
                    · rw [show vp_updL f (6 * i + j - 1) y2 (6 * i + c - 1) = f (6 * i + c - 1) from if_neg (by omega)]; exact hf c h1 (by omega)
                  · rw [show vp_updL f (6 * i + j - 1) y2 z9 = f z9 from if_neg (h j hj1 (by omega))]
                    exact hf2 z9 (fun c h1 h2 => h c h1 (by omega))
                · exact absurd (nI_le (a := k9) (b := a) (by omega) (by omega)) hb8
              | succ dd ihd =>
                intro a y z ha ha1 hy hz
                have hyr : 0 ≤ y.toInt ∧ y.toInt < 100003 := by rw [hy]; exact ⟨Int.emod_nonneg _ (by decide), Int.emod_lt_of_pos _ (by decide)⟩
                have hzr : 0 ≤ z.toInt ∧ z.toInt < 100003 := by rw [hz]; exact ⟨Int.emod_nonneg _ (by decide), Int.emod_lt_of_pos _ (by decide)⟩
                refine g_ild10 eX12_parts_72 ?_
                refine g_ild3 eX12_parts_74 ?_
                refine g_icmp_ge eX12_parts_75 (fun hb8 => ?_) (fun hb8 => ?_)
                · exact absurd hb8 (nI_ge (by omega) (by omega))
                · have ez := mulp64 (a := z) (b := (nI j).toInt64) (p0 := 100003) (by omega) (by rw [tl, ej]; omega) (by decide)
                  rw [tl, ej, P64, hz, emod_mul_mod, ← Int.pow_succ, show (a - 1).succ = a by omega] at ez
                  refine g_lld8 eX12_parts_78 ?_
                  refine g_ild5 eX12_parts_80 ?_
                  refine g_i2l eX12_parts_82 ?_
                  refine g_lmul eX12_parts_83 ?_
                  refine g_ldc2 kc_X12_492 eX12_parts_84 ?_
                  refine g_lrem hne eX12_parts_87 ?_
                  refine g_lst8 rfl (Nat.le_of_ble_eq_true rfl) eX12_parts_88 ?_
                  refine g_lld6 eX12_parts_90 ?_
                  refine g_ild4 eX12_parts_92 ?_
                  refine g_ild10 eX12_parts_94 ?_
                  refine g_ldcw kc_X12_494 eX12_parts_96 ?_
                  generalize z * (nI j).toInt64 - z * (nI j).toInt64 / 100003 * 100003 = z2 at ez ⊢
                  have hz2 : 0 ≤ z2.toInt ∧ z2.toInt < 100003 := by rw [ez]; exact ⟨Int.emod_nonneg _ (by decide), Int.emod_lt_of_pos _ (by decide)⟩
                  refine g_callSi (w_lotOf _ seed (nI a) 100003 (by decide)) cs_X12_382 eX12_parts_99 ⟨Nat.le_of_ble_eq_true rfl, Nat.le_of_ble_eq_true rfl⟩ rfl rfl (Nat.le_of_ble_eq_true rfl) (fun r u h => ?_)
                  obtain ⟨rfl, hr⟩ := h
                  rw [eP] at hr
                  have hlr := lot_rng seed (nI a) (n := 100003) (by decide)
                  have hm1 := mul_rng8 (a := lotF seed (nI a) 100003) (b := z2.toInt) (by omega) (by omega)
                  have hm0 : 0 ≤ lotF seed (nI a) 100003 * z2.toInt := Int.mul_nonneg hlr.1 hz2.1
                  have e1 : (r.toInt64 * z2).toInt = lotF seed (nI a) 100003 * z2.toInt := by rw [fb_mulL (by rw [tl, hr]; omega) (by rw [tl, hr]; omega), tl, hr]
                  have e2 : (y + r.toInt64 * z2).toInt = y.toInt + lotF seed (nI a) 100003 * z2.toInt := by rw [fb_addL (by rw [e1]; omega) (by rw [e1]; omega), e1]
                  refine g_i2l eX12_parts_102 ?_
                  refine g_lld8 eX12_parts_103 ?_
                  refine g_lmul eX12_parts_105 ?_
                  refine g_ladd eX12_parts_106 ?_
                  refine g_ldc2 kc_X12_492 eX12_parts_107 ?_
                  refine g_lrem hne eX12_parts_110 ?_
                  refine g_lst6 rfl (Nat.le_of_ble_eq_true rfl) eX12_parts_111 ?_
                  refine g_inc10 rfl (Nat.le_of_ble_eq_true rfl) rfl eX12_parts_113 ?_
                  refine g_goto eX12_parts_116 ?_
                  rw [inc1]
                  refine ihd (a + 1) _ z2 (by omega) (by omega) ?_ ?_
                  · rw [rem64p (by rw [e2]; omega) (by decide), e2, P64, hy, ez, emod_addm, Int.add_emod, mul_emod_r, ← Int.add_emod]
                    obtain ⟨a0, rfl⟩ : ∃ a0, a = a0 + 1 := ⟨a - 1, by omega⟩
                    rfl
                  · rw [ez]; rfl
            refine g_ild5 eX12_parts_51 ?_
            refine g_ild2 eX12_parts_53 ?_
            refine g_icmp_gt eX12_parts_54 (fun hb7 => ?_) (fun hb7 => ?_)
            · exact absurd hb7 (nI_nlt (by omega) (by omega))
            · refine g_ald0 eX12_parts_57 ?_
              refine g_getR (ci := 11) (j := 54) rfl (Nat.le_of_ble_eq_true rfl) (Nat.le_of_ble_eq_true rfl) (Nat.le_of_ble_eq_true rfl) rfl rfl fl_X12_109 eX12_parts_58 ?_
              refine g_ild1 eX12_parts_61 ?_
              refine g_iald rfl (Nat.le_of_ble_eq_true rfl) hin4 eX12_parts_62 ?_
              rw [hP, eC]
              refine g_i2l eX12_parts_63 ?_
              refine g_lst6 rfl (Nat.le_of_ble_eq_true rfl) eX12_parts_64 ?_
              refine g_lconst (v := 1) rfl eX12_parts_66 ?_
              refine g_lst8 rfl (Nat.le_of_ble_eq_true rfl) eX12_parts_67 ?_
              refine g_iconst (v := 1) (by decide) eX12_parts_69 ?_
              refine g_ist10 rfl (Nat.le_of_ble_eq_true rfl) eX12_parts_70 ?_
              refine inner (k9 - 1) 1 _ 1 (by omega) (Nat.le_refl _) ?_ rfl
              rw [tl]
              show _ = mP s1 i % 100003
              have h9 : mP s1 i = (s1.1 63 i).toInt := rfl
              rw [Int.emod_eq_of_lt (by omega) (by omega)]
        exact outer n9 1 _ _ _ _ (by omega) (Nat.le_refl _) (fun c h1 h2 => by omega) (fun z _ => rfl)
      · rw [b2_eq0] at hb4
        exact bad (fun h => hb4 h.2.2)
end PARTH
