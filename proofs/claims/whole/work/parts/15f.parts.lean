/-! parts, part, spoil, joined, who: the class -/
section PARTF
variable {l : Launch} {D : va_G} {cy : Nat → ClassId}
def pN (st : St) (i : Nat) : Nat := (st.1 (84 + 3 * i) 1).toInt.toNat
def pKn (st : St) (i : Nat) : Nat := (st.1 (84 + 3 * i) 2).toInt.toNat
def ptsOK (st : St) (nk : Nat) : Prop := ∀ i, i < nk → ptOK st i (pN st i) (pKn st i) ∧ (0 < pN st i → 1 ≤ pKn st i)
theorem m_hasParts (st : St) {nk : Nat} (hk : st.1 0 7 = nI nk) (h4 : nk ≤ 4) (hp : ptsOK st nk) (k : Int32) : Mi l D cy 1 YX11_hasParts [.ref 0, .int k] st (fun r u => u = st ∧ r = b2 (isS nk k ∧ 0 < pN st (qI k))) := by
  have hkc : (st.1 0 7).toInt = nk := by rw [hk, nI_toInt (by omega)]
  refine M.ofG [some (.ref 0), some (.int k)] (by decide) (Nat.le_of_ble_eq_true rfl) rfl ?_
  intro xp xe xs xm xa xb xme xc xad xA
  refine g_ald0 eX11_hasParts_0 ?_
  refine g_ild1 eX11_hasParts_1 ?_
  refine g_callVi (ci := 10) (m_isKey _ k) (by first | rfl | exact kd_key hi | exact kd_sh hi | exact kd_ya hi | exact kd_pr hq | exact kd_pk hq | exact kd_pf hq | exact kd_ps hq | exact kd_po hq | exact kd_pr hq2 | exact kd_pk hq2 | exact kd_pf hq2 | exact kd_ps hq2 | exact kd_po hq2) (by first | decide | (unfold N0; omega)) (Nat.le_of_ble_eq_true rfl) rfl cv_X11_234 eX11_hasParts_2 ⟨Nat.le_of_ble_eq_true rfl, Nat.le_of_ble_eq_true rfl⟩ rfl rfl (Nat.le_of_ble_eq_true rfl) (fun r st h => ?_)
  obtain ⟨rfl, rfl⟩ := h
  rw [hkc]
  refine g_if_eq eX11_hasParts_5 (fun hb => ?_) (fun hb => ?_)
  · rw [b2_eq0] at hb
    refine g_iconst (v := 0) (by decide) eX11_hasParts_27 ?_
    refine g_zret (ty := .boolean) rfl (by first | rfl | assumption) eX11_hasParts_28 ⟨_, rfl, ?_⟩
    try dsimp only
    exact ⟨rfl, b2_f (fun h => hb h.1)⟩
  · rw [b2_ne0] at hb
    have hC := hb
    obtain ⟨i, hik, rfl⟩ := as_nI hb
    have hi : i < 4 := by omega
    have e : qI (nI i) = i := nI_clamp (by omega)
    have hpi := (hp i hik).1
    refine g_ald0 eX11_hasParts_8 ?_
    refine g_getR (ci := 10) (j := 6) (by first | rfl | exact kd_key hi | exact kd_sh hi | exact kd_ya hi | exact kd_pr hq | exact kd_pk hq | exact kd_pf hq | exact kd_ps hq | exact kd_po hq | exact kd_pr hq2 | exact kd_pk hq2 | exact kd_pf hq2 | exact kd_ps hq2 | exact kd_po hq2) (by first | decide | (unfold N0; omega)) (Nat.le_of_ble_eq_true rfl) (Nat.le_of_ble_eq_true rfl) rfl (by first | rfl | exact r_key4 hi | exact r_sh0 hi | exact r_p0 hq | exact r_p1 hq | exact r_p2 hq | exact r_p3 hq | exact r_p0 hq2 | exact r_p1 hq2 | exact r_p2 hq2 | exact r_p3 hq2) fl_X11_29 eX11_hasParts_9 ?_
    refine g_ild1 eX11_hasParts_12 ?_
    refine g_aald (by decide) (Nat.le_of_ble_eq_true rfl) (keyIx hi).1 (keyIx hi).2 eX11_hasParts_13 ?_
    refine g_getR (ci := 2) (j := 4) (by first | rfl | exact kd_key hi | exact kd_sh hi | exact kd_ya hi | exact kd_pr hq | exact kd_pk hq | exact kd_pf hq | exact kd_ps hq | exact kd_po hq | exact kd_pr hq2 | exact kd_pk hq2 | exact kd_pf hq2 | exact kd_ps hq2 | exact kd_po hq2) (by first | decide | (unfold N0; omega)) (Nat.le_of_ble_eq_true rfl) (Nat.le_of_ble_eq_true rfl) rfl (by first | rfl | exact r_key4 hi | exact r_sh0 hi | exact r_p0 hq | exact r_p1 hq | exact r_p2 hq | exact r_p3 hq | exact r_p0 hq2 | exact r_p1 hq2 | exact r_p2 hq2 | exact r_p3 hq2) fl_X11_294 eX11_hasParts_14 ?_
    refine g_getI (ci := 5) (j := 1) (by first | rfl | exact kd_key hi | exact kd_sh hi | exact kd_ya hi | exact kd_pr hq | exact kd_pk hq | exact kd_pf hq | exact kd_ps hq | exact kd_po hq | exact kd_pr hq2 | exact kd_pk hq2 | exact kd_pf hq2 | exact kd_ps hq2 | exact kd_po hq2) (by first | decide | (unfold N0; omega)) (Nat.le_of_ble_eq_true rfl) (Nat.le_of_ble_eq_true rfl) rfl fl_X11_383 eX11_hasParts_17 ?_
    rw [hpi.1]
    refine g_if_le eX11_hasParts_20 (fun hb2 => ?_) (fun hb2 => ?_)
    · rw [fa_le, z32, nI_toInt (by have := hpi.2.1; omega)] at hb2
      refine g_iconst (v := 0) (by decide) eX11_hasParts_27 ?_
      refine g_zret (ty := .boolean) rfl (by first | rfl | assumption) eX11_hasParts_28 ⟨_, rfl, ?_⟩
      try dsimp only
      refine ⟨rfl, b2_f (fun h => ?_)⟩
      have := h.2
      rw [e] at this
      omega
    · rw [fa_le, z32, nI_toInt (by have := hpi.2.1; omega)] at hb2
      refine g_iconst (v := 1) (by decide) eX11_hasParts_23 ?_
      refine g_goto eX11_hasParts_24 ?_
      refine g_zret (ty := .boolean) rfl (by first | rfl | assumption) eX11_hasParts_28 ⟨_, rfl, ?_⟩
      try dsimp only
      refine ⟨rfl, b2_t ⟨hC, ?_⟩⟩
      rw [e]
      omega
theorem m_hasPart (st : St) {nk : Nat} (hk : st.1 0 7 = nI nk) (h4 : nk ≤ 4) (hp : ptsOK st nk) (k j : Int32) : Mi l D cy 2 YX11_hasPart [.ref 0, .int k, .int j] st (fun r u => u = st ∧ r = b2 ((isS nk k ∧ 0 < pN st (qI k)) ∧ 1 ≤ j.toInt ∧ j.toInt ≤ pN st (qI k))) := by
  refine M.ofG [some (.ref 0), some (.int k), some (.int j)] (by decide) (Nat.le_of_ble_eq_true rfl) rfl ?_
  intro xp xe xs xm xa xb xme xc xad xA
  refine g_ald0 eX11_hasPart_0 ?_
  refine g_ild1 eX11_hasPart_1 ?_
  refine g_callVi (ci := 10) (m_hasParts _ hk h4 hp k) (by first | rfl | exact kd_key hi | exact kd_sh hi | exact kd_ya hi | exact kd_pr hq | exact kd_pk hq | exact kd_pf hq | exact kd_ps hq | exact kd_po hq | exact kd_pr hq2 | exact kd_pk hq2 | exact kd_pf hq2 | exact kd_ps hq2 | exact kd_po hq2) (by first | decide | (unfold N0; omega)) (Nat.le_of_ble_eq_true rfl) rfl cv_X11_312 eX11_hasPart_2 ⟨Nat.le_of_ble_eq_true rfl, Nat.le_of_ble_eq_true rfl⟩ rfl rfl (Nat.le_of_ble_eq_true rfl) (fun r st h => ?_)
  obtain ⟨rfl, rfl⟩ := h
  refine g_if_eq eX11_hasPart_5 (fun hb => ?_) (fun hb => ?_)
  · rw [b2_eq0] at hb
    refine g_iconst (v := 0) (by decide) eX11_hasPart_33 ?_
    refine g_zret (ty := .boolean) rfl (by first | rfl | assumption) eX11_hasPart_34 ⟨_, rfl, ?_⟩
    try dsimp only
    exact ⟨rfl, b2_f (fun h => hb h.1)⟩
  · rw [b2_ne0] at hb
    have hC := hb
    obtain ⟨i, hik, rfl⟩ := as_nI hb.1
    have hi : i < 4 := by omega
    have e : qI (nI i) = i := nI_clamp (by omega)
    have hpi := (hp i hik).1
    refine g_ild2 eX11_hasPart_8 ?_
    refine g_iconst (v := 1) (by decide) eX11_hasPart_9 ?_
    refine g_icmp_lt eX11_hasPart_10 (fun hb2 => ?_) (fun hb2 => ?_)
    · simp only [fa_lt, Int32.reduceToInt] at hb2
      refine g_iconst (v := 0) (by decide) eX11_hasPart_33 ?_
      refine g_zret (ty := .boolean) rfl (by first | rfl | assumption) eX11_hasPart_34 ⟨_, rfl, ?_⟩
      try dsimp only
      exact ⟨rfl, b2_f (fun h => by have := h.2.1; omega)⟩
    · simp only [fa_lt, Int32.reduceToInt] at hb2
      refine g_ild2 eX11_hasPart_13 ?_
      refine g_ald0 eX11_hasPart_14 ?_
      refine g_getR (ci := 10) (j := 6) (by first | rfl | exact kd_key hi | exact kd_sh hi | exact kd_ya hi | exact kd_pr hq | exact kd_pk hq | exact kd_pf hq | exact kd_ps hq | exact kd_po hq | exact kd_pr hq2 | exact kd_pk hq2 | exact kd_pf hq2 | exact kd_ps hq2 | exact kd_po hq2) (by first | decide | (unfold N0; omega)) (Nat.le_of_ble_eq_true rfl) (Nat.le_of_ble_eq_true rfl) rfl (by first | rfl | exact r_key4 hi | exact r_sh0 hi | exact r_p0 hq | exact r_p1 hq | exact r_p2 hq | exact r_p3 hq | exact r_p0 hq2 | exact r_p1 hq2 | exact r_p2 hq2 | exact r_p3 hq2) fl_X11_29 eX11_hasPart_15 ?_
      refine g_ild1 eX11_hasPart_18 ?_
      refine g_aald (by decide) (Nat.le_of_ble_eq_true rfl) (keyIx hi).1 (keyIx hi).2 eX11_hasPart_19 ?_
      refine g_getR (ci := 2) (j := 4) (by first | rfl | exact kd_key hi | exact kd_sh hi | exact kd_ya hi | exact kd_pr hq | exact kd_pk hq | exact kd_pf hq | exact kd_ps hq | exact kd_po hq | exact kd_pr hq2 | exact kd_pk hq2 | exact kd_pf hq2 | exact kd_ps hq2 | exact kd_po hq2) (by first | decide | (unfold N0; omega)) (Nat.le_of_ble_eq_true rfl) (Nat.le_of_ble_eq_true rfl) rfl (by first | rfl | exact r_key4 hi | exact r_sh0 hi | exact r_p0 hq | exact r_p1 hq | exact r_p2 hq | exact r_p3 hq | exact r_p0 hq2 | exact r_p1 hq2 | exact r_p2 hq2 | exact r_p3 hq2) fl_X11_294 eX11_hasPart_20 ?_
      refine g_getI (ci := 5) (j := 1) (by first | rfl | exact kd_key hi | exact kd_sh hi | exact kd_ya hi | exact kd_pr hq | exact kd_pk hq | exact kd_pf hq | exact kd_ps hq | exact kd_po hq | exact kd_pr hq2 | exact kd_pk hq2 | exact kd_pf hq2 | exact kd_ps hq2 | exact kd_po hq2) (by first | decide | (unfold N0; omega)) (Nat.le_of_ble_eq_true rfl) (Nat.le_of_ble_eq_true rfl) rfl fl_X11_383 eX11_hasPart_23 ?_
      rw [hpi.1]
      refine g_icmp_gt eX11_hasPart_26 (fun hb3 => ?_) (fun hb3 => ?_)
      · rw [fa_lt, nI_toInt (by have := hpi.2.1; omega)] at hb3
        refine g_iconst (v := 0) (by decide) eX11_hasPart_33 ?_
        refine g_zret (ty := .boolean) rfl (by first | rfl | assumption) eX11_hasPart_34 ⟨_, rfl, ?_⟩
        try dsimp only
        exact ⟨rfl, b2_f (fun h => by have := h.2.2; rw [e] at this; omega)⟩
      · rw [fa_lt, nI_toInt (by have := hpi.2.1; omega)] at hb3
        refine g_iconst (v := 1) (by decide) eX11_hasPart_29 ?_
        refine g_goto eX11_hasPart_30 ?_
        refine g_zret (ty := .boolean) rfl (by first | rfl | assumption) eX11_hasPart_34 ⟨_, rfl, ?_⟩
        try dsimp only
        exact ⟨rfl, b2_t ⟨hC, by omega, by rw [e]; omega⟩⟩
theorem m_part (st : St) {nk : Nat} (hk : st.1 0 7 = nI nk) (h4 : nk ≤ 4) (hp : ptsOK st nk) (k j : Int32) : Mi l D cy 3 YX11_part [.ref 0, .int k, .int j] st (fun r u => u = st ∧ r.toInt = if (isS nk k ∧ 0 < pN st (qI k)) ∧ 1 ≤ j.toInt ∧ j.toInt ≤ pN st (qI k) then ptY st (qI k) (qI j) else -1) := by
  refine M.ofG [some (.ref 0), some (.int k), some (.int j)] (by decide) (Nat.le_of_ble_eq_true rfl) rfl ?_
  intro xp xe xs xm xa xb xme xc xad xA
  refine g_ald0 eX11_part_0 ?_
  refine g_ild1 eX11_part_1 ?_
  refine g_ild2 eX11_part_2 ?_
  refine g_callVi (ci := 10) (m_hasPart _ hk h4 hp k j) (by first | rfl | exact kd_key hi | exact kd_sh hi | exact kd_ya hi | exact kd_pr hq | exact kd_pk hq | exact kd_pf hq | exact kd_ps hq | exact kd_po hq | exact kd_pr hq2 | exact kd_pk hq2 | exact kd_pf hq2 | exact kd_ps hq2 | exact kd_po hq2) (by first | decide | (unfold N0; omega)) (Nat.le_of_ble_eq_true rfl) rfl cv_X11_305 eX11_part_3 ⟨Nat.le_of_ble_eq_true rfl, Nat.le_of_ble_eq_true rfl⟩ rfl rfl (Nat.le_of_ble_eq_true rfl) (fun r st h => ?_)
  obtain ⟨rfl, rfl⟩ := h
  refine g_if_eq eX11_part_6 (fun hb => ?_) (fun hb => ?_)
  · rw [b2_eq0] at hb
    refine g_iconst (v := (-1)) (by decide) eX11_part_26 ?_
    refine g_iret rfl eX11_part_27 ⟨_, rfl, ?_⟩
    try dsimp only
    rw [if_neg hb]
    exact ⟨rfl, rfl⟩
  · rw [b2_ne0] at hb
    have hC := hb
    obtain ⟨i, hik, rfl⟩ := as_nI hb.1.1
    have hi : i < 4 := by omega
    have e : qI (nI i) = i := nI_clamp (by omega)
    have hpi := (hp i hik).1
    have h6 := hpi.2.1
    rw [e] at hb
    obtain ⟨a, ha, rfl⟩ := as_nI (x := j) (n := 7) (by omega)
    have ea : qI (nI a) = a := nI_clamp (by omega)
    refine g_ald0 eX11_part_9 ?_
    refine g_getR (ci := 10) (j := 6) (by first | rfl | exact kd_key hi | exact kd_sh hi | exact kd_ya hi | exact kd_pr hq | exact kd_pk hq | exact kd_pf hq | exact kd_ps hq | exact kd_po hq | exact kd_pr hq2 | exact kd_pk hq2 | exact kd_pf hq2 | exact kd_ps hq2 | exact kd_po hq2) (by first | decide | (unfold N0; omega)) (Nat.le_of_ble_eq_true rfl) (Nat.le_of_ble_eq_true rfl) rfl (by first | rfl | exact r_key4 hi | exact r_sh0 hi | exact r_p0 hq | exact r_p1 hq | exact r_p2 hq | exact r_p3 hq | exact r_p0 hq2 | exact r_p1 hq2 | exact r_p2 hq2 | exact r_p3 hq2) fl_X11_29 eX11_part_10 ?_
    refine g_ild1 eX11_part_13 ?_
    refine g_aald (by decide) (Nat.le_of_ble_eq_true rfl) (keyIx hi).1 (keyIx hi).2 eX11_part_14 ?_
    refine g_getR (ci := 2) (j := 4) (by first | rfl | exact kd_key hi | exact kd_sh hi | exact kd_ya hi | exact kd_pr hq | exact kd_pk hq | exact kd_pf hq | exact kd_ps hq | exact kd_po hq | exact kd_pr hq2 | exact kd_pk hq2 | exact kd_pf hq2 | exact kd_ps hq2 | exact kd_po hq2) (by first | decide | (unfold N0; omega)) (Nat.le_of_ble_eq_true rfl) (Nat.le_of_ble_eq_true rfl) rfl (by first | rfl | exact r_key4 hi | exact r_sh0 hi | exact r_p0 hq | exact r_p1 hq | exact r_p2 hq | exact r_p3 hq | exact r_p0 hq2 | exact r_p1 hq2 | exact r_p2 hq2 | exact r_p3 hq2) fl_X11_294 eX11_part_15 ?_
    refine g_getR (ci := 5) (j := 0) (by first | rfl | exact kd_key hi | exact kd_sh hi | exact kd_ya hi | exact kd_pr hq | exact kd_pk hq | exact kd_pf hq | exact kd_ps hq | exact kd_po hq | exact kd_pr hq2 | exact kd_pk hq2 | exact kd_pf hq2 | exact kd_ps hq2 | exact kd_po hq2) (by first | decide | (unfold N0; omega)) (Nat.le_of_ble_eq_true rfl) (Nat.le_of_ble_eq_true rfl) rfl (by first | rfl | exact r_key4 hi | exact r_sh0 hi | exact r_p0 hq | exact r_p1 hq | exact r_p2 hq | exact r_p3 hq | exact r_p0 hq2 | exact r_p1 hq2 | exact r_p2 hq2 | exact r_p3 hq2) fl_X11_308 eX11_part_18 ?_
    refine g_ild2 eX11_part_21 ?_
    refine g_iald (by first | rfl | exact kd_key hi | exact kd_sh hi | exact kd_ya hi | exact kd_pr hq | exact kd_pk hq | exact kd_pf hq | exact kd_ps hq | exact kd_po hq | exact kd_pr hq2 | exact kd_pk hq2 | exact kd_pf hq2 | exact kd_ps hq2 | exact kd_po hq2) (by first | decide | (unfold N0; omega)) (by rw [ln_ya hi]; exact vp_in_nI (n := a) (N := 7) ha (by decide)) eX11_part_22 ?_
    rw [show (nI a).toNatClampNeg = a from ea]
    refine g_goto eX11_part_23 ?_
    refine g_iret rfl eX11_part_27 ⟨_, rfl, ?_⟩
    try dsimp only
    rw [if_pos hC, e, ea]
    exact ⟨rfl, rfl⟩
theorem m_spoil (st : St) {nk : Nat} (hk : st.1 0 7 = nI nk) (h4 : nk ≤ 4) (hp : ptsOK st nk) (k j v : Int32) : Mi l D cy 3 YX11_spoil [.ref 0, .int k, .int j, .int v] st (fun r u => if ((isS nk k ∧ 0 < pN st (qI k)) ∧ 1 ≤ j.toInt ∧ j.toInt ≤ pN st (qI k)) ∧ 0 ≤ v.toInt ∧ v.toInt < 100003 then r = 1 ∧ u = sI st (85 + 3 * qI k) (qI j) v else r = 0 ∧ u = st) := by
  have eP : (100003 : Int32).toInt = 100003 := rfl
  refine M.ofG [some (.ref 0), some (.int k), some (.int j), some (.int v)] (by decide) (Nat.le_of_ble_eq_true rfl) rfl ?_
  intro xp xe xs xm xa xb xme xc xad xA
  refine g_ald0 eX11_spoil_0 ?_
  refine g_ild1 eX11_spoil_1 ?_
  refine g_ild2 eX11_spoil_2 ?_
  refine g_callVi (ci := 10) (m_hasPart _ hk h4 hp k j) (by first | rfl | exact kd_key hi | exact kd_sh hi | exact kd_ya hi | exact kd_pr hq | exact kd_pk hq | exact kd_pf hq | exact kd_ps hq | exact kd_po hq | exact kd_pr hq2 | exact kd_pk hq2 | exact kd_pf hq2 | exact kd_ps hq2 | exact kd_po hq2) (by first | decide | (unfold N0; omega)) (Nat.le_of_ble_eq_true rfl) rfl cv_X11_305 eX11_spoil_3 ⟨Nat.le_of_ble_eq_true rfl, Nat.le_of_ble_eq_true rfl⟩ rfl rfl (Nat.le_of_ble_eq_true rfl) (fun r st h => ?_)
  obtain ⟨rfl, rfl⟩ := h
  refine g_if_eq eX11_spoil_6 (fun hb => ?_) (fun hb => ?_)
  · rw [b2_eq0] at hb
    refine g_iconst (v := 0) (by decide) eX11_spoil_20 ?_
    refine g_zret (ty := .boolean) rfl (by first | rfl | assumption) eX11_spoil_21 ⟨_, rfl, ?_⟩
    try dsimp only
    rw [if_neg (fun h => hb h.1)]
    exact ⟨rfl, rfl⟩
  · rw [b2_ne0] at hb
    have hC := hb
    refine g_ild3 eX11_spoil_9 ?_
    refine g_if_lt eX11_spoil_10 (fun hb2 => ?_) (fun hb2 => ?_)
    · rw [fa_lt, z32] at hb2
      refine g_iconst (v := 0) (by decide) eX11_spoil_20 ?_
      refine g_zret (ty := .boolean) rfl (by first | rfl | assumption) eX11_spoil_21 ⟨_, rfl, ?_⟩
      try dsimp only
      rw [if_neg (fun h => by have := h.2.1; omega)]
      exact ⟨rfl, rfl⟩
    · rw [fa_lt, z32] at hb2
      refine g_ild3 eX11_spoil_13 ?_
      refine g_ldcw kc_X11_311 eX11_spoil_14 ?_
      refine g_icmp_lt eX11_spoil_17 (fun hb3 => ?_) (fun hb3 => ?_)
      · rw [fa_lt, eP] at hb3
        obtain ⟨i, hik, rfl⟩ := as_nI hb.1.1
        have hi : i < 4 := by omega
        have e : qI (nI i) = i := nI_clamp (by omega)
        have hpi := (hp i hik).1
        have h6 := hpi.2.1
        rw [e] at hb
        obtain ⟨a, ha, rfl⟩ := as_nI (x := j) (n := 7) (by omega)
        have ea : qI (nI a) = a := nI_clamp (by omega)
        refine g_ald0 eX11_spoil_22 ?_
        refine g_getR (ci := 10) (j := 6) (by first | rfl | exact kd_key hi | exact kd_sh hi | exact kd_ya hi | exact kd_pr hq | exact kd_pk hq | exact kd_pf hq | exact kd_ps hq | exact kd_po hq | exact kd_pr hq2 | exact kd_pk hq2 | exact kd_pf hq2 | exact kd_ps hq2 | exact kd_po hq2) (by first | decide | (unfold N0; omega)) (Nat.le_of_ble_eq_true rfl) (Nat.le_of_ble_eq_true rfl) rfl (by first | rfl | exact r_key4 hi | exact r_sh0 hi | exact r_p0 hq | exact r_p1 hq | exact r_p2 hq | exact r_p3 hq | exact r_p0 hq2 | exact r_p1 hq2 | exact r_p2 hq2 | exact r_p3 hq2) fl_X11_29 eX11_spoil_23 ?_
        refine g_ild1 eX11_spoil_26 ?_
        refine g_aald (by decide) (Nat.le_of_ble_eq_true rfl) (keyIx hi).1 (keyIx hi).2 eX11_spoil_27 ?_
        refine g_getR (ci := 2) (j := 4) (by first | rfl | exact kd_key hi | exact kd_sh hi | exact kd_ya hi | exact kd_pr hq | exact kd_pk hq | exact kd_pf hq | exact kd_ps hq | exact kd_po hq | exact kd_pr hq2 | exact kd_pk hq2 | exact kd_pf hq2 | exact kd_ps hq2 | exact kd_po hq2) (by first | decide | (unfold N0; omega)) (Nat.le_of_ble_eq_true rfl) (Nat.le_of_ble_eq_true rfl) rfl (by first | rfl | exact r_key4 hi | exact r_sh0 hi | exact r_p0 hq | exact r_p1 hq | exact r_p2 hq | exact r_p3 hq | exact r_p0 hq2 | exact r_p1 hq2 | exact r_p2 hq2 | exact r_p3 hq2) fl_X11_294 eX11_spoil_28 ?_
        refine g_getR (ci := 5) (j := 0) (by first | rfl | exact kd_key hi | exact kd_sh hi | exact kd_ya hi | exact kd_pr hq | exact kd_pk hq | exact kd_pf hq | exact kd_ps hq | exact kd_po hq | exact kd_pr hq2 | exact kd_pk hq2 | exact kd_pf hq2 | exact kd_ps hq2 | exact kd_po hq2) (by first | decide | (unfold N0; omega)) (Nat.le_of_ble_eq_true rfl) (Nat.le_of_ble_eq_true rfl) rfl (by first | rfl | exact r_key4 hi | exact r_sh0 hi | exact r_p0 hq | exact r_p1 hq | exact r_p2 hq | exact r_p3 hq | exact r_p0 hq2 | exact r_p1 hq2 | exact r_p2 hq2 | exact r_p3 hq2) fl_X11_308 eX11_spoil_31 ?_
        refine g_ild2 eX11_spoil_34 ?_
        refine g_ild3 eX11_spoil_35 ?_
        refine g_iast (by first | rfl | exact kd_key hi | exact kd_sh hi | exact kd_ya hi | exact kd_pr hq | exact kd_pk hq | exact kd_pf hq | exact kd_ps hq | exact kd_po hq | exact kd_pr hq2 | exact kd_pk hq2 | exact kd_pf hq2 | exact kd_ps hq2 | exact kd_po hq2) (by first | decide | (unfold N0; omega)) (by rw [ln_ya hi]; exact vp_in_nI (n := a) (N := 7) ha (by decide)) eX11_spoil_36 ?_
        rw [show (nI a).toNatClampNeg = a from ea]
        refine g_iconst (v := 1) (by decide) eX11_spoil_37 ?_
        refine g_zret (ty := .boolean) rfl (by first | rfl | assumption) eX11_spoil_38 ⟨_, rfl, ?_⟩
        try dsimp only
        rw [if_pos ⟨hC, by omega, hb3⟩, e, ea]
        exact ⟨rfl, rfl⟩
      · rw [fa_lt, eP] at hb3
        refine g_iconst (v := 0) (by decide) eX11_spoil_20 ?_
        refine g_zret (ty := .boolean) rfl (by first | rfl | assumption) eX11_spoil_21 ⟨_, rfl, ?_⟩
        try dsimp only
        rw [if_neg (fun h => by have := h.2.2; omega)]
        exact ⟨rfl, rfl⟩
theorem pw_n (n : Nat) (hn : n ≤ 6) : 1 ≤ 2 ^ n ∧ 2 ^ n ≤ 64 := ⟨Nat.pow_pos (by decide), Nat.le_trans (Nat.pow_le_pow_right (by decide) hn) (by decide)⟩
theorem m_joined (st : St) {nk : Nat} (hk : st.1 0 7 = nI nk) (h4 : nk ≤ 4) (hp : ptsOK st nk) (k s0 : Int32) : Mi l D cy 4 YX11_joined [.ref 0, .int k, .int s0] st (fun r u => u = st ∧ r.toInt = if (isS nk k ∧ 0 < pN st (qI k)) ∧ 0 ≤ s0.toInt ∧ s0.toInt < (2 ^ pN st (qI k) : Nat) then (if fb_ct (bitS (qI s0)) 7 < pKn st (qI k) then -2 else vaF (first (qI s0) (pKn st (qI k))) (ptY st (qI k)) 0) else -1) := by
  refine M.ofG [some (.ref 0), some (.int k), some (.int s0), none] (by decide) (Nat.le_of_ble_eq_true rfl) rfl ?_
  intro xp xe xs xm xa xb xme xc xad xA
  refine g_ald0 eX11_joined_0 ?_
  refine g_ild1 eX11_joined_1 ?_
  refine g_callVi (ci := 10) (m_hasParts _ hk h4 hp k) (by first | rfl | exact kd_key hi | exact kd_sh hi | exact kd_ya hi | exact kd_pr hq | exact kd_pk hq | exact kd_pf hq | exact kd_ps hq | exact kd_po hq | exact kd_pr hq2 | exact kd_pk hq2 | exact kd_pf hq2 | exact kd_ps hq2 | exact kd_po hq2) (by first | decide | (unfold N0; omega)) (Nat.le_of_ble_eq_true rfl) rfl cv_X11_312 eX11_joined_2 ⟨Nat.le_of_ble_eq_true rfl, Nat.le_of_ble_eq_true rfl⟩ rfl rfl (Nat.le_of_ble_eq_true rfl) (fun r st h => ?_)
  obtain ⟨rfl, rfl⟩ := h
  refine g_if_eq eX11_joined_5 (fun hb => ?_) (fun hb => ?_)
  · rw [b2_eq0] at hb
    refine g_iconst (v := (-1)) (by decide) eX11_joined_28 ?_
    refine g_iret rfl eX11_joined_29 ⟨_, rfl, ?_⟩
    try dsimp only
    rw [if_neg (fun h => hb h.1)]
    exact ⟨rfl, rfl⟩
  · rw [b2_ne0] at hb
    have hC := hb
    refine g_ild2 eX11_joined_8 ?_
    refine g_if_lt eX11_joined_9 (fun hb2 => ?_) (fun hb2 => ?_)
    · rw [fa_lt, z32] at hb2
      refine g_iconst (v := (-1)) (by decide) eX11_joined_28 ?_
      refine g_iret rfl eX11_joined_29 ⟨_, rfl, ?_⟩
      try dsimp only
      rw [if_neg (fun h => by have := h.2.1; omega)]
      exact ⟨rfl, rfl⟩
    · rw [fa_lt, z32] at hb2
      obtain ⟨i, hik, rfl⟩ := as_nI hb.1
      have hi : i < 4 := by omega
      have e : qI (nI i) = i := nI_clamp (by omega)
      have hpi := (hp i hik).1
      have h6 := hpi.2.1
      have hk6 := hpi.2.2.2.1
      have hpw := pw_n (pN st i) h6
      refine g_ild2 eX11_joined_12 ?_
      refine g_ald0 eX11_joined_13 ?_
      refine g_getR (ci := 10) (j := 6) (by first | rfl | exact kd_key hi | exact kd_sh hi | exact kd_ya hi | exact kd_pr hq | exact kd_pk hq | exact kd_pf hq | exact kd_ps hq | exact kd_po hq | exact kd_pr hq2 | exact kd_pk hq2 | exact kd_pf hq2 | exact kd_ps hq2 | exact kd_po hq2) (by first | decide | (unfold N0; omega)) (Nat.le_of_ble_eq_true rfl) (Nat.le_of_ble_eq_true rfl) rfl (by first | rfl | exact r_key4 hi | exact r_sh0 hi | exact r_p0 hq | exact r_p1 hq | exact r_p2 hq | exact r_p3 hq | exact r_p0 hq2 | exact r_p1 hq2 | exact r_p2 hq2 | exact r_p3 hq2) fl_X11_29 eX11_joined_14 ?_
      refine g_ild1 eX11_joined_17 ?_
      refine g_aald (by decide) (Nat.le_of_ble_eq_true rfl) (keyIx hi).1 (keyIx hi).2 eX11_joined_18 ?_
      refine g_getR (ci := 2) (j := 4) (by first | rfl | exact kd_key hi | exact kd_sh hi | exact kd_ya hi | exact kd_pr hq | exact kd_pk hq | exact kd_pf hq | exact kd_ps hq | exact kd_po hq | exact kd_pr hq2 | exact kd_pk hq2 | exact kd_pf hq2 | exact kd_ps hq2 | exact kd_po hq2) (by first | decide | (unfold N0; omega)) (Nat.le_of_ble_eq_true rfl) (Nat.le_of_ble_eq_true rfl) rfl (by first | rfl | exact r_key4 hi | exact r_sh0 hi | exact r_p0 hq | exact r_p1 hq | exact r_p2 hq | exact r_p3 hq | exact r_p0 hq2 | exact r_p1 hq2 | exact r_p2 hq2 | exact r_p3 hq2) fl_X11_294 eX11_joined_19 ?_
      refine g_callVi (ci := 5) (m_all _ hi _ hpi.1 (by omega)) (by first | rfl | exact kd_key hi | exact kd_sh hi | exact kd_ya hi | exact kd_pr hq | exact kd_pk hq | exact kd_pf hq | exact kd_ps hq | exact kd_po hq | exact kd_pr hq2 | exact kd_pk hq2 | exact kd_pf hq2 | exact kd_ps hq2 | exact kd_po hq2) (by first | decide | (unfold N0; omega)) (Nat.le_of_ble_eq_true rfl) rfl cv_X11_315 eX11_joined_22 ⟨Nat.le_of_ble_eq_true rfl, Nat.le_of_ble_eq_true rfl⟩ rfl rfl (Nat.le_of_ble_eq_true rfl) (fun r st h => ?_)
      obtain ⟨rfl, rfl⟩ := h
      refine g_icmp_le eX11_joined_25 (fun hb3 => ?_) (fun hb3 => ?_)
      · rw [fa_le, nI_toInt (by omega)] at hb3
        obtain ⟨a, ha, rfl⟩ := as_nI (x := s0) (n := 2 ^ pN st i) (by omega)
        have ea : qI (nI a) = a := nI_clamp (by omega)
        have hOK : (isS nk (nI i) ∧ 0 < pN st (qI (nI i))) ∧ 0 ≤ (nI a).toInt ∧ (nI a).toInt < (2 ^ pN st (qI (nI i)) : Nat) := ⟨hC, by rw [nI_toInt (by omega)]; omega, by rw [e, nI_toInt (by omega)]; omega⟩
        have hcl := fb_ct_le (bitS a) 7
        refine g_ald0 eX11_joined_30 ?_
        refine g_getR (ci := 10) (j := 6) (by first | rfl | exact kd_key hi | exact kd_sh hi | exact kd_ya hi | exact kd_pr hq | exact kd_pk hq | exact kd_pf hq | exact kd_ps hq | exact kd_po hq | exact kd_pr hq2 | exact kd_pk hq2 | exact kd_pf hq2 | exact kd_ps hq2 | exact kd_po hq2) (by first | decide | (unfold N0; omega)) (Nat.le_of_ble_eq_true rfl) (Nat.le_of_ble_eq_true rfl) rfl (by first | rfl | exact r_key4 hi | exact r_sh0 hi | exact r_p0 hq | exact r_p1 hq | exact r_p2 hq | exact r_p3 hq | exact r_p0 hq2 | exact r_p1 hq2 | exact r_p2 hq2 | exact r_p3 hq2) fl_X11_29 eX11_joined_31 ?_
        refine g_ild1 eX11_joined_34 ?_
        refine g_aald (by decide) (Nat.le_of_ble_eq_true rfl) (keyIx hi).1 (keyIx hi).2 eX11_joined_35 ?_
        refine g_getR (ci := 2) (j := 4) (by first | rfl | exact kd_key hi | exact kd_sh hi | exact kd_ya hi | exact kd_pr hq | exact kd_pk hq | exact kd_pf hq | exact kd_ps hq | exact kd_po hq | exact kd_pr hq2 | exact kd_pk hq2 | exact kd_pf hq2 | exact kd_ps hq2 | exact kd_po hq2) (by first | decide | (unfold N0; omega)) (Nat.le_of_ble_eq_true rfl) (Nat.le_of_ble_eq_true rfl) rfl (by first | rfl | exact r_key4 hi | exact r_sh0 hi | exact r_p0 hq | exact r_p1 hq | exact r_p2 hq | exact r_p3 hq | exact r_p0 hq2 | exact r_p1 hq2 | exact r_p2 hq2 | exact r_p3 hq2) fl_X11_294 eX11_joined_36 ?_
        refine g_ast3 rfl (Nat.le_of_ble_eq_true rfl) eX11_joined_39 ?_
        refine g_ild2 eX11_joined_40 ?_
        refine g_callSi (m_bitCount _ (nI a)) cs_X11_319 eX11_joined_41 ⟨Nat.le_of_ble_eq_true rfl, Nat.le_of_ble_eq_true rfl⟩ rfl rfl (Nat.le_of_ble_eq_true rfl) (fun r st h => ?_)
        obtain ⟨rfl, rfl⟩ := h
        rw [bc_pop (by omega), ct_pop a (by omega)]
        refine g_ald3 eX11_joined_44 ?_
        refine g_getI (ci := 5) (j := 2) (by first | rfl | exact kd_key hi | exact kd_sh hi | exact kd_ya hi | exact kd_pr hq | exact kd_pk hq | exact kd_pf hq | exact kd_ps hq | exact kd_po hq | exact kd_pr hq2 | exact kd_pk hq2 | exact kd_pf hq2 | exact kd_ps hq2 | exact kd_po hq2) (by first | decide | (unfold N0; omega)) (Nat.le_of_ble_eq_true rfl) (Nat.le_of_ble_eq_true rfl) rfl fl_X11_324 eX11_joined_45 ?_
        rw [hpi.2.2.1]
        refine g_icmp_ge eX11_joined_48 (fun hb4 => ?_) (fun hb4 => ?_)
        · rw [nI_leI (by omega) (by omega)] at hb4
          refine g_ald3 eX11_joined_56 ?_
          refine g_ild2 eX11_joined_57 ?_
          refine g_iconst (v := 0) (by decide) eX11_joined_58 ?_
          refine g_callVi (ci := 5) (m_valueAt _ hi hpi a ha 0 (by decide)) (by first | rfl | exact kd_key hi | exact kd_sh hi | exact kd_ya hi | exact kd_pr hq | exact kd_pk hq | exact kd_pf hq | exact kd_ps hq | exact kd_po hq | exact kd_pr hq2 | exact kd_pk hq2 | exact kd_pf hq2 | exact kd_ps hq2 | exact kd_po hq2) (by first | decide | (unfold N0; omega)) (Nat.le_of_ble_eq_true rfl) rfl cv_X11_327 eX11_joined_59 ⟨Nat.le_of_ble_eq_true rfl, Nat.le_of_ble_eq_true rfl⟩ rfl rfl (Nat.le_of_ble_eq_true rfl) (fun r st h => ?_)
          obtain ⟨rfl, hr⟩ := h
          refine g_iret rfl eX11_joined_62 ⟨_, rfl, ?_⟩
          try dsimp only
          rw [if_pos hOK, e, ea, if_neg (by omega)]
          exact ⟨rfl, hr⟩
        · rw [nI_leI (by omega) (by omega)] at hb4
          refine g_bipush (v := (-2)) (by decide) eX11_joined_51 ?_
          refine g_goto eX11_joined_53 ?_
          refine g_iret rfl eX11_joined_62 ⟨_, rfl, ?_⟩
          try dsimp only
          rw [if_pos hOK, e, ea, if_pos (by omega)]
          exact ⟨rfl, rfl⟩
      · rw [fa_le, nI_toInt (by omega)] at hb3
        refine g_iconst (v := (-1)) (by decide) eX11_joined_28 ?_
        refine g_iret rfl eX11_joined_29 ⟨_, rfl, ?_⟩
        try dsimp only
        rw [if_neg (fun h => by have := h.2.2; rw [e] at this; omega)]
        exact ⟨rfl, rfl⟩
theorem m_who (st : St) {nk : Nat} (hk : st.1 0 7 = nI nk) (h4 : nk ≤ 4) (hp : ptsOK st nk) (k : Int32) : Mi l D cy 6 YX11_who [.ref 0, .int k] st (fun r u => u = st ∧ (isS nk k ∧ 0 < pN st (qI k) → whoR (pN st (qI k)) (pKn st (qI k)) (ptY st (qI k)) r.toInt) ∧ (¬ (isS nk k ∧ 0 < pN st (qI k)) → r = -1)) := by
  refine M.ofG [some (.ref 0), some (.int k)] (by decide) (Nat.le_of_ble_eq_true rfl) rfl ?_
  intro xp xe xs xm xa xb xme xc xad xA
  refine g_ald0 eX11_who_0 ?_
  refine g_ild1 eX11_who_1 ?_
  refine g_callVi (ci := 10) (m_hasParts _ hk h4 hp k) (by first | rfl | exact kd_key hi | exact kd_sh hi | exact kd_ya hi | exact kd_pr hq | exact kd_pk hq | exact kd_pf hq | exact kd_ps hq | exact kd_po hq | exact kd_pr hq2 | exact kd_pk hq2 | exact kd_pf hq2 | exact kd_ps hq2 | exact kd_po hq2) (by first | decide | (unfold N0; omega)) (Nat.le_of_ble_eq_true rfl) rfl cv_X11_312 eX11_who_2 ⟨Nat.le_of_ble_eq_true rfl, Nat.le_of_ble_eq_true rfl⟩ rfl rfl (Nat.le_of_ble_eq_true rfl) (fun r st h => ?_)
  obtain ⟨rfl, rfl⟩ := h
  refine g_if_eq eX11_who_5 (fun hb => ?_) (fun hb => ?_)
  · rw [b2_eq0] at hb
    refine g_iconst (v := (-1)) (by decide) eX11_who_23 ?_
    refine g_iret rfl eX11_who_24 ⟨_, rfl, ?_⟩
    try dsimp only
    exact ⟨rfl, fun h => absurd h hb, fun _ => rfl⟩
  · rw [b2_ne0] at hb
    have hC := hb
    obtain ⟨i, hik, rfl⟩ := as_nI hb.1
    have hi : i < 4 := by omega
    have e : qI (nI i) = i := nI_clamp (by omega)
    have hpi := hp i hik
    refine g_ald0 eX11_who_8 ?_
    refine g_getR (ci := 10) (j := 6) (by first | rfl | exact kd_key hi | exact kd_sh hi | exact kd_ya hi | exact kd_pr hq | exact kd_pk hq | exact kd_pf hq | exact kd_ps hq | exact kd_po hq | exact kd_pr hq2 | exact kd_pk hq2 | exact kd_pf hq2 | exact kd_ps hq2 | exact kd_po hq2) (by first | decide | (unfold N0; omega)) (Nat.le_of_ble_eq_true rfl) (Nat.le_of_ble_eq_true rfl) rfl (by first | rfl | exact r_key4 hi | exact r_sh0 hi | exact r_p0 hq | exact r_p1 hq | exact r_p2 hq | exact r_p3 hq | exact r_p0 hq2 | exact r_p1 hq2 | exact r_p2 hq2 | exact r_p3 hq2) fl_X11_29 eX11_who_9 ?_
    refine g_ild1 eX11_who_12 ?_
    refine g_aald (by decide) (Nat.le_of_ble_eq_true rfl) (keyIx hi).1 (keyIx hi).2 eX11_who_13 ?_
    refine g_getR (ci := 2) (j := 4) (by first | rfl | exact kd_key hi | exact kd_sh hi | exact kd_ya hi | exact kd_pr hq | exact kd_pk hq | exact kd_pf hq | exact kd_ps hq | exact kd_po hq | exact kd_pr hq2 | exact kd_pk hq2 | exact kd_pf hq2 | exact kd_ps hq2 | exact kd_po hq2) (by first | decide | (unfold N0; omega)) (Nat.le_of_ble_eq_true rfl) (Nat.le_of_ble_eq_true rfl) rfl (by first | rfl | exact r_key4 hi | exact r_sh0 hi | exact r_p0 hq | exact r_p1 hq | exact r_p2 hq | exact r_p3 hq | exact r_p0 hq2 | exact r_p1 hq2 | exact r_p2 hq2 | exact r_p3 hq2) fl_X11_294 eX11_who_14 ?_
    refine g_callVi (ci := 5) (m_wrongOne _ hi hpi.1 (hpi.2 (by rw [e] at hb; exact hb.2))) (by first | rfl | exact kd_key hi | exact kd_sh hi | exact kd_ya hi | exact kd_pr hq | exact kd_pk hq | exact kd_pf hq | exact kd_ps hq | exact kd_po hq | exact kd_pr hq2 | exact kd_pk hq2 | exact kd_pf hq2 | exact kd_ps hq2 | exact kd_po hq2) (by first | decide | (unfold N0; omega)) (Nat.le_of_ble_eq_true rfl) rfl cv_X11_330 eX11_who_17 ⟨Nat.le_of_ble_eq_true rfl, Nat.le_of_ble_eq_true rfl⟩ rfl rfl (Nat.le_of_ble_eq_true rfl) (fun r st h => ?_)
    obtain ⟨rfl, hr⟩ := h
    refine g_goto eX11_who_20 ?_
    refine g_iret rfl eX11_who_24 ⟨_, rfl, ?_⟩
    try dsimp only
    refine ⟨rfl, fun _ => ?_, fun h => absurd hC h⟩
    rw [e]
    exact hr
theorem m_parts (st : St) {nk n : Nat} (hx : xOK st nk n) (k a b seed : Int32) : Mi l D cy 3 YX11_parts [.ref 0, .int k, .int a, .int b, .int seed] st (fun r u => if isS nk k ∧ (2 ≤ a.toInt ∧ a.toInt ≤ 6) ∧ 1 ≤ b.toInt ∧ b.toInt ≤ a.toInt then r = 1 ∧ ∃ f, u = dealS st (qI k) (qI a) (qI b) f ∧ (∀ j : Nat, 1 ≤ j → j ≤ qI a → (f j).toInt = dlF (kP st (qI k)) seed (qI b) j) ∧ ∀ j, ¬ (1 ≤ j ∧ j ≤ qI a) → f j = st.1 (85 + 3 * qI k) j else r = 0 ∧ u = st) := by
  obtain ⟨x1, x2, x3, x4, x5, x6, x7, x8⟩ := hx
  have hkc : (st.1 0 7).toInt = nk := by rw [x1, nI_toInt (by omega)]
  refine M.ofG [some (.ref 0), some (.int k), some (.int a), some (.int b), some (.int seed)] (by decide) (Nat.le_of_ble_eq_true rfl) rfl ?_
  intro xp xe xs xm xa xb xme xc xad xA
  have bad : ¬ (isS nk k ∧ (2 ≤ a.toInt ∧ a.toInt ≤ 6) ∧ 1 ≤ b.toInt ∧ b.toInt ≤ a.toInt) → G xp l xe (rmd (3)) xs xm xa xb xme xc D cy xad xA (YX11_parts.2.1, YX11_parts.1.cls, YX11_parts.2.2.1, YX11_parts.2.2.2) (Pi (fun (r : Int32) (u : St) => if isS nk k ∧ (2 ≤ a.toInt ∧ a.toInt ≤ 6) ∧ 1 ≤ b.toInt ∧ b.toInt ≤ a.toInt then r = 1 ∧ ∃ f, u = dealS st (qI k) (qI a) (qI b) f ∧ (∀ j : Nat, 1 ≤ j → j ≤ qI a → (f j).toInt = dlF (kP st (qI k)) seed (qI b) j) ∧ ∀ j, ¬ (1 ≤ j ∧ j ≤ qI a) → f j = st.1 (85 + 3 * qI k) j else r = 0 ∧ u = st)) 29 ([some (.ref 0), some (.int k), some (.int a), some (.int b), some (.int seed)]) ([]) (st) := by
    intro h
    refine g_iconst (v := 0) (by decide) eX11_parts_29 ?_
    refine g_zret (ty := .boolean) rfl (by first | rfl | assumption) eX11_parts_30 ⟨_, rfl, ?_⟩
    try dsimp only
    rw [if_neg h]
    exact ⟨rfl, rfl⟩
  refine g_ald0 eX11_parts_0 ?_
  refine g_ild1 eX11_parts_1 ?_
  refine g_callVi (ci := 10) (m_isKey _ k) (by first | rfl | exact kd_key hi | exact kd_sh hi | exact kd_ya hi | exact kd_pr hq | exact kd_pk hq | exact kd_pf hq | exact kd_ps hq | exact kd_po hq | exact kd_pr hq2 | exact kd_pk hq2 | exact kd_pf hq2 | exact kd_ps hq2 | exact kd_po hq2) (by first | decide | (unfold N0; omega)) (Nat.le_of_ble_eq_true rfl) rfl cv_X11_234 eX11_parts_2 ⟨Nat.le_of_ble_eq_true rfl, Nat.le_of_ble_eq_true rfl⟩ rfl rfl (Nat.le_of_ble_eq_true rfl) (fun r st h => ?_)
  obtain ⟨rfl, rfl⟩ := h
  rw [hkc]
  refine g_if_eq eX11_parts_5 (fun hb => ?_) (fun hb => ?_)
  · rw [b2_eq0] at hb
    exact bad (fun h => hb h.1)
  · rw [b2_ne0] at hb
    refine g_ild2 eX11_parts_8 ?_
    refine g_iconst (v := 2) (by decide) eX11_parts_9 ?_
    refine g_icmp_lt eX11_parts_10 (fun hb2 => ?_) (fun hb2 => ?_)
    · simp only [fa_lt, Int32.reduceToInt] at hb2
      exact bad (fun h => by have := h.2.1.1; omega)
    · simp only [fa_lt, Int32.reduceToInt] at hb2
      refine g_ild2 eX11_parts_13 ?_
      refine g_bipush (v := 6) (by decide) eX11_parts_14 ?_
      refine g_icmp_gt eX11_parts_16 (fun hb3 => ?_) (fun hb3 => ?_)
      · simp only [fa_lt, Int32.reduceToInt] at hb3
        exact bad (fun h => by have := h.2.1.2; omega)
      · simp only [fa_lt, Int32.reduceToInt] at hb3
        refine g_ild3 eX11_parts_19 ?_
        refine g_iconst (v := 1) (by decide) eX11_parts_20 ?_
        refine g_icmp_lt eX11_parts_21 (fun hb4 => ?_) (fun hb4 => ?_)
        · simp only [fa_lt, Int32.reduceToInt] at hb4
          exact bad (fun h => by have := h.2.2.1; omega)
        · simp only [fa_lt, Int32.reduceToInt] at hb4
          refine g_ild3 eX11_parts_24 ?_
          refine g_ild2 eX11_parts_25 ?_
          refine g_icmp_le eX11_parts_26 (fun hb5 => ?_) (fun hb5 => ?_)
          · rw [fa_le] at hb5
            have hOK : isS nk k ∧ (2 ≤ a.toInt ∧ a.toInt ≤ 6) ∧ 1 ≤ b.toInt ∧ b.toInt ≤ a.toInt := ⟨hb, by omega, by omega, hb5⟩
            obtain ⟨i, hik, rfl⟩ := as_nI hb
            have hi : i < 4 := by omega
            have e : qI (nI i) = i := nI_clamp (by omega)
            obtain ⟨n9, hn9, rfl⟩ := as_nI (x := a) (n := 7) (by omega)
            obtain ⟨k9, hk9, rfl⟩ := as_nI (x := b) (n := 7) (by omega)
            have en : qI (nI n9) = n9 := nI_clamp (by omega)
            have ek : qI (nI k9) = k9 := nI_clamp (by omega)
            rw [nI_toInt (by omega)] at hb2 hb3 hb4
            have hky := x6 i hik
            have hky1 := hky.1
            have hky2 := hky.2.1
            refine g_ald0 eX11_parts_31 ?_
            refine g_getR (ci := 10) (j := 6) (by first | rfl | exact kd_key hi | exact kd_sh hi | exact kd_ya hi | exact kd_pr hq | exact kd_pk hq | exact kd_pf hq | exact kd_ps hq | exact kd_po hq | exact kd_pr hq2 | exact kd_pk hq2 | exact kd_pf hq2 | exact kd_ps hq2 | exact kd_po hq2) (by first | decide | (unfold N0; omega)) (Nat.le_of_ble_eq_true rfl) (Nat.le_of_ble_eq_true rfl) rfl (by first | rfl | exact r_key4 hi | exact r_sh0 hi | exact r_p0 hq | exact r_p1 hq | exact r_p2 hq | exact r_p3 hq | exact r_p0 hq2 | exact r_p1 hq2 | exact r_p2 hq2 | exact r_p3 hq2) fl_X11_29 eX11_parts_32 ?_
            refine g_ild1 eX11_parts_35 ?_
            refine g_aald (by decide) (Nat.le_of_ble_eq_true rfl) (keyIx hi).1 (keyIx hi).2 eX11_parts_36 ?_
            refine g_getR (ci := 2) (j := 4) (by first | rfl | exact kd_key hi | exact kd_sh hi | exact kd_ya hi | exact kd_pr hq | exact kd_pk hq | exact kd_pf hq | exact kd_ps hq | exact kd_po hq | exact kd_pr hq2 | exact kd_pk hq2 | exact kd_pf hq2 | exact kd_ps hq2 | exact kd_po hq2) (by first | decide | (unfold N0; omega)) (Nat.le_of_ble_eq_true rfl) (Nat.le_of_ble_eq_true rfl) rfl (by first | rfl | exact r_key4 hi | exact r_sh0 hi | exact r_p0 hq | exact r_p1 hq | exact r_p2 hq | exact r_p3 hq | exact r_p0 hq2 | exact r_p1 hq2 | exact r_p2 hq2 | exact r_p3 hq2) fl_X11_294 eX11_parts_37 ?_
            refine g_ald0 eX11_parts_40 ?_
            refine g_getR (ci := 10) (j := 6) (by first | rfl | exact kd_key hi | exact kd_sh hi | exact kd_ya hi | exact kd_pr hq | exact kd_pk hq | exact kd_pf hq | exact kd_ps hq | exact kd_po hq | exact kd_pr hq2 | exact kd_pk hq2 | exact kd_pf hq2 | exact kd_ps hq2 | exact kd_po hq2) (by first | decide | (unfold N0; omega)) (Nat.le_of_ble_eq_true rfl) (Nat.le_of_ble_eq_true rfl) rfl (by first | rfl | exact r_key4 hi | exact r_sh0 hi | exact r_p0 hq | exact r_p1 hq | exact r_p2 hq | exact r_p3 hq | exact r_p0 hq2 | exact r_p1 hq2 | exact r_p2 hq2 | exact r_p3 hq2) fl_X11_29 eX11_parts_41 ?_
            refine g_ild1 eX11_parts_44 ?_
            refine g_aald (by decide) (Nat.le_of_ble_eq_true rfl) (keyIx hi).1 (keyIx hi).2 eX11_parts_45 ?_
            refine g_getI (ci := 2) (j := 0) (by first | rfl | exact kd_key hi | exact kd_sh hi | exact kd_ya hi | exact kd_pr hq | exact kd_pk hq | exact kd_pf hq | exact kd_ps hq | exact kd_po hq | exact kd_pr hq2 | exact kd_pk hq2 | exact kd_pf hq2 | exact kd_ps hq2 | exact kd_po hq2) (by first | decide | (unfold N0; omega)) (Nat.le_of_ble_eq_true rfl) (Nat.le_of_ble_eq_true rfl) rfl fl_X11_298 eX11_parts_46 ?_
            refine g_ild2 eX11_parts_49 ?_
            refine g_ild3 eX11_parts_50 ?_
            refine g_ild4 eX11_parts_51 ?_
            refine g_callVv (ci := 5) (m_deal _ hi (st.1 (83 + 3 * i) 0) (by omega) n9 k9 (by omega) (by omega) seed) (by first | rfl | exact kd_key hi | exact kd_sh hi | exact kd_ya hi | exact kd_pr hq | exact kd_pk hq | exact kd_pf hq | exact kd_ps hq | exact kd_po hq | exact kd_pr hq2 | exact kd_pk hq2 | exact kd_pf hq2 | exact kd_ps hq2 | exact kd_po hq2) (by first | decide | (unfold N0; omega)) (Nat.le_of_ble_eq_true rfl) rfl cv_X11_301 eX11_parts_53 ⟨Nat.le_of_ble_eq_true rfl, Nat.le_of_ble_eq_true rfl⟩ rfl rfl (Nat.le_of_ble_eq_true rfl) (fun u h => ?_)
            obtain ⟨f, rfl, h1, h2⟩ := h
            refine g_iconst (v := 1) (by decide) eX11_parts_56 ?_
            refine g_zret (ty := .boolean) rfl (by first | rfl | assumption) eX11_parts_57 ⟨_, rfl, ?_⟩
            try dsimp only
            rw [if_pos hOK, e, en, ek]
            exact ⟨rfl, f, rfl, h1, h2⟩
          · rw [fa_le] at hb5
            exact bad (fun h => hb5 h.2.2.2)
end PARTF
