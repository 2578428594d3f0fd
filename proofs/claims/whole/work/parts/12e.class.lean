/-! SealedSums: layings that hold, plain outs, programs compared, choices, counts -/
section CLSE
variable {l : Launch} {D : va_G} {cy : Nat → ClassId}
theorem m_holds (st : St) {nk n : Nat} (hx : xOK st nk n) {np : Nat} (hp : pOK st np) (x y k : Int32) : Mi l D cy 4 YX11_holds [.ref 0, .int x, .int y, .int k] st (fun r u => if (isS np x ∧ 0 ≤ k.toInt ∧ k.toInt < layN ((st.1 (95 + 5 * (qI x)) 5).toInt)) ∧ isS nk y then (∃ g, u = sR st 26 g) ∧ r = b2 (stays (gK st (qI x)) (gA st (qI x)) (gB st (qI x)) ((st.1 (95 + 5 * (qI x)) 4).toInt) ((st.1 (95 + 5 * (qI x)) 5).toInt).toNat (fB st (qI y)) (st.1 (83 + 3 * qI y) 0).toInt k.toInt) else r = -1 ∧ u = st) := by
  have hp0 := hp
  obtain ⟨h1, h2, h3, h4, h5⟩ := hp
  obtain ⟨x1, x2, x3, x4, x5, x6, x7, x8⟩ := hx
  have hck : (st.1 0 7).toInt = nk := by rw [x1, nI_toInt (by omega)]
  refine M.ofG [some (.ref 0), some (.int x), some (.int y), some (.int k)] (by decide) (Nat.le_of_ble_eq_true rfl) rfl ?_
  intro xp xe xs xm xa xb xme xc xad xA
  refine g_ald0 eX11_holds_0 ?_
  refine g_ild1 eX11_holds_1 ?_
  refine g_ild3 eX11_holds_2 ?_
  refine g_callVi (ci := 10) (m_hasLaying _ hp0 x k) (by first | rfl | exact kd_key hi | exact kd_sh hi | exact kd_ya hi | exact kd_pr hq | exact kd_pk hq | exact kd_pf hq | exact kd_ps hq | exact kd_po hq | exact kd_pr hq2 | exact kd_pk hq2 | exact kd_pf hq2 | exact kd_ps hq2 | exact kd_po hq2) (by first | decide | (unfold N0; omega)) (Nat.le_of_ble_eq_true rfl) rfl cv_X11_228 eX11_holds_3 ⟨Nat.le_of_ble_eq_true rfl, Nat.le_of_ble_eq_true rfl⟩ rfl rfl (Nat.le_of_ble_eq_true rfl) (fun r st h => ?_)
  obtain ⟨rfl, rfl⟩ := h
  refine g_if_eq eX11_holds_6 (fun hb => ?_) (fun hb => ?_)
  · rw [b2_eq0] at hb
    refine g_iconst (v := (-1)) (by decide) eX11_holds_17 ?_
    refine g_iret rfl eX11_holds_18 ⟨_, rfl, ?_⟩
    try dsimp only
    rw [if_neg (fun h => hb h.1)]
    exact ⟨rfl, rfl⟩
  · rw [b2_ne0] at hb
    refine g_ald0 eX11_holds_9 ?_
    refine g_ild2 eX11_holds_10 ?_
    refine g_callVi (ci := 10) (m_isKey _ y) (by first | rfl | exact kd_key hi | exact kd_sh hi | exact kd_ya hi | exact kd_pr hq | exact kd_pk hq | exact kd_pf hq | exact kd_ps hq | exact kd_po hq | exact kd_pr hq2 | exact kd_pk hq2 | exact kd_pf hq2 | exact kd_ps hq2 | exact kd_po hq2) (by first | decide | (unfold N0; omega)) (Nat.le_of_ble_eq_true rfl) rfl cv_X11_234 eX11_holds_11 ⟨Nat.le_of_ble_eq_true rfl, Nat.le_of_ble_eq_true rfl⟩ rfl rfl (Nat.le_of_ble_eq_true rfl) (fun r st h => ?_)
    obtain ⟨rfl, rfl⟩ := h
    refine g_if_ne eX11_holds_14 (fun hb2 => ?_) (fun hb2 => ?_)
    · rw [b2_ne0, hck] at hb2
      have hC := And.intro hb hb2
      obtain ⟨q, hq9, rfl⟩ := as_nI hb.1
      obtain ⟨i, hi9, rfl⟩ := as_nI hb2
      have hq : q < 4 := by omega
      have hi : i < 4 := by omega
      have e : qI (nI q) = q := nI_clamp (by omega)
      have e2 : qI (nI i) = i := nI_clamp (by omega)
      refine g_ald0 eX11_holds_19 ?_
      refine g_getR (ci := 10) (j := 12) (by first | rfl | exact kd_key hi | exact kd_sh hi | exact kd_ya hi | exact kd_pr hq | exact kd_pk hq | exact kd_pf hq | exact kd_ps hq | exact kd_po hq | exact kd_pr hq2 | exact kd_pk hq2 | exact kd_pf hq2 | exact kd_ps hq2 | exact kd_po hq2) (by first | decide | (unfold N0; omega)) (Nat.le_of_ble_eq_true rfl) (Nat.le_of_ble_eq_true rfl) rfl (by first | rfl | exact r_key4 hi | exact r_sh0 hi | exact r_p0 hq | exact r_p1 hq | exact r_p2 hq | exact r_p3 hq | exact r_p0 hq2 | exact r_p1 hq2 | exact r_p2 hq2 | exact r_p3 hq2) fl_X11_87 eX11_holds_20 ?_
      refine g_ald0 eX11_holds_23 ?_
      refine g_getR (ci := 10) (j := 9) (by first | rfl | exact kd_key hi | exact kd_sh hi | exact kd_ya hi | exact kd_pr hq | exact kd_pk hq | exact kd_pf hq | exact kd_ps hq | exact kd_po hq | exact kd_pr hq2 | exact kd_pk hq2 | exact kd_pf hq2 | exact kd_ps hq2 | exact kd_po hq2) (by first | decide | (unfold N0; omega)) (Nat.le_of_ble_eq_true rfl) (Nat.le_of_ble_eq_true rfl) rfl (by first | rfl | exact r_key4 hi | exact r_sh0 hi | exact r_p0 hq | exact r_p1 hq | exact r_p2 hq | exact r_p3 hq | exact r_p0 hq2 | exact r_p1 hq2 | exact r_p2 hq2 | exact r_p3 hq2) fl_X11_45 eX11_holds_24 ?_
      refine g_ild1 eX11_holds_27 ?_
      refine g_aald (by decide) (Nat.le_of_ble_eq_true rfl) (progIx hq).1 (progIx hq).2 eX11_holds_28 ?_
      refine g_ald0 eX11_holds_29 ?_
      refine g_getR (ci := 10) (j := 6) (by first | rfl | exact kd_key hi | exact kd_sh hi | exact kd_ya hi | exact kd_pr hq | exact kd_pk hq | exact kd_pf hq | exact kd_ps hq | exact kd_po hq | exact kd_pr hq2 | exact kd_pk hq2 | exact kd_pf hq2 | exact kd_ps hq2 | exact kd_po hq2) (by first | decide | (unfold N0; omega)) (Nat.le_of_ble_eq_true rfl) (Nat.le_of_ble_eq_true rfl) rfl (by first | rfl | exact r_key4 hi | exact r_sh0 hi | exact r_p0 hq | exact r_p1 hq | exact r_p2 hq | exact r_p3 hq | exact r_p0 hq2 | exact r_p1 hq2 | exact r_p2 hq2 | exact r_p3 hq2) fl_X11_29 eX11_holds_30 ?_
      refine g_ild2 eX11_holds_33 ?_
      refine g_aald (by decide) (Nat.le_of_ble_eq_true rfl) (keyIx hi).1 (keyIx hi).2 eX11_holds_34 ?_
      refine g_ild3 eX11_holds_35 ?_
      refine g_callVi (ci := 0) (m_staysAfloat _ hq hi (x6 i hi9) (by rw [h4]; exact h3) (by rw [h4]; exact h5 q hq9) k hb.2.1) (by first | rfl | exact kd_key hi | exact kd_sh hi | exact kd_ya hi | exact kd_pr hq | exact kd_pk hq | exact kd_pf hq | exact kd_ps hq | exact kd_po hq | exact kd_pr hq2 | exact kd_pk hq2 | exact kd_pf hq2 | exact kd_ps hq2 | exact kd_po hq2) (by first | decide | (unfold N0; omega)) (Nat.le_of_ble_eq_true rfl) rfl cv_X11_237 eX11_holds_36 ⟨Nat.le_of_ble_eq_true rfl, Nat.le_of_ble_eq_true rfl⟩ rfl rfl (Nat.le_of_ble_eq_true rfl) (fun r u h => ?_)
      obtain ⟨hg, rfl⟩ := h
      rw [h4]
      refine g_if_eq eX11_holds_39 (fun hs => ?_) (fun hs => ?_)
      · rw [b2_eq0] at hs
        refine g_iconst (v := 0) (by decide) eX11_holds_46 ?_
        refine g_iret rfl eX11_holds_47 ⟨_, rfl, ?_⟩
        try dsimp only
        rw [if_pos hC, e, e2]
        exact ⟨hg, b2_f hs⟩
      · rw [b2_ne0] at hs
        refine g_iconst (v := 1) (by decide) eX11_holds_42 ?_
        refine g_goto eX11_holds_43 ?_
        refine g_iret rfl eX11_holds_47 ⟨_, rfl, ?_⟩
        try dsimp only
        rw [if_pos hC, e, e2]
        exact ⟨hg, b2_t hs⟩
    · rw [b2_eq0, hck] at hb2
      refine g_iconst (v := (-1)) (by decide) eX11_holds_17 ?_
      refine g_iret rfl eX11_holds_18 ⟨_, rfl, ?_⟩
      try dsimp only
      rw [if_neg (fun h => hb2 h.2)]
      exact ⟨rfl, rfl⟩
theorem m_best (st : St) {nk n : Nat} (hx : xOK st nk n) {np : Nat} (hp : pOK st np) (x y : Int32) : Mi l D cy 5 YX11_best [.ref 0, .int x, .int y] st (fun r u => if isS np x ∧ isS nk y ∧ (st.1 (95 + 5 * (qI x)) 5).toInt ≤ 12 then (∃ g, u = sR st 26 g) ∧ r.toInt = (bestG (stB st (qI x) (qI y) (fB st (qI y))) (layN ((st.1 (95 + 5 * (qI x)) 5).toInt)).toNat).1 else r = -1 ∧ u = st) := by
  obtain ⟨h1, h2, h3, h4, h5⟩ := hp
  obtain ⟨x1, x2, x3, x4, x5, x6, x7, x8⟩ := hx
  have hck : (st.1 0 7).toInt = nk := by rw [x1, nI_toInt (by omega)]
  have hcn : (st.1 0 10).toInt = np := by rw [h1, nI_toInt (by omega)]
  refine M.ofG [some (.ref 0), some (.int x), some (.int y)] (by decide) (Nat.le_of_ble_eq_true rfl) rfl ?_
  intro xp xe xs xm xa xb xme xc xad xA
  refine g_ald0 eX11_best_0 ?_
  refine g_ild1 eX11_best_1 ?_
  refine g_callVi (ci := 10) (m_isProgram _ x) (by first | rfl | exact kd_key hi | exact kd_sh hi | exact kd_ya hi | exact kd_pr hq | exact kd_pk hq | exact kd_pf hq | exact kd_ps hq | exact kd_po hq | exact kd_pr hq2 | exact kd_pk hq2 | exact kd_pf hq2 | exact kd_ps hq2 | exact kd_po hq2) (by first | decide | (unfold N0; omega)) (Nat.le_of_ble_eq_true rfl) rfl cv_X11_206 eX11_best_2 ⟨Nat.le_of_ble_eq_true rfl, Nat.le_of_ble_eq_true rfl⟩ rfl rfl (Nat.le_of_ble_eq_true rfl) (fun r st h => ?_)
  obtain ⟨rfl, rfl⟩ := h
  refine g_if_eq eX11_best_5 (fun hb => ?_) (fun hb => ?_)
  · rw [b2_eq0, hcn] at hb
    refine g_iconst (v := (-1)) (by decide) eX11_best_30 ?_
    refine g_iret rfl eX11_best_31 ⟨_, rfl, ?_⟩
    try dsimp only
    rw [if_neg (fun h => hb h.1)]
    exact ⟨rfl, rfl⟩
  · rw [b2_ne0, hcn] at hb
    refine g_ald0 eX11_best_8 ?_
    refine g_ild2 eX11_best_9 ?_
    refine g_callVi (ci := 10) (m_isKey _ y) (by first | rfl | exact kd_key hi | exact kd_sh hi | exact kd_ya hi | exact kd_pr hq | exact kd_pk hq | exact kd_pf hq | exact kd_ps hq | exact kd_po hq | exact kd_pr hq2 | exact kd_pk hq2 | exact kd_pf hq2 | exact kd_ps hq2 | exact kd_po hq2) (by first | decide | (unfold N0; omega)) (Nat.le_of_ble_eq_true rfl) rfl cv_X11_234 eX11_best_10 ⟨Nat.le_of_ble_eq_true rfl, Nat.le_of_ble_eq_true rfl⟩ rfl rfl (Nat.le_of_ble_eq_true rfl) (fun r st h => ?_)
    obtain ⟨rfl, rfl⟩ := h
    refine g_if_eq eX11_best_13 (fun hb2 => ?_) (fun hb2 => ?_)
    · rw [b2_eq0, hck] at hb2
      refine g_iconst (v := (-1)) (by decide) eX11_best_30 ?_
      refine g_iret rfl eX11_best_31 ⟨_, rfl, ?_⟩
      try dsimp only
      rw [if_neg (fun h => hb2 h.2.1)]
      exact ⟨rfl, rfl⟩
    · rw [b2_ne0, hck] at hb2
      have hC := And.intro hb hb2
      obtain ⟨q, hq9, rfl⟩ := as_nI hb
      obtain ⟨i, hi9, rfl⟩ := as_nI hb2
      have hq : q < 4 := by omega
      have hi : i < 4 := by omega
      have e : qI (nI q) = q := nI_clamp (by omega)
      have e2 : qI (nI i) = i := nI_clamp (by omega)
      refine g_ald0 eX11_best_16 ?_
      refine g_getR (ci := 10) (j := 9) (by first | rfl | exact kd_key hi | exact kd_sh hi | exact kd_ya hi | exact kd_pr hq | exact kd_pk hq | exact kd_pf hq | exact kd_ps hq | exact kd_po hq | exact kd_pr hq2 | exact kd_pk hq2 | exact kd_pf hq2 | exact kd_ps hq2 | exact kd_po hq2) (by first | decide | (unfold N0; omega)) (Nat.le_of_ble_eq_true rfl) (Nat.le_of_ble_eq_true rfl) rfl (by first | rfl | exact r_key4 hi | exact r_sh0 hi | exact r_p0 hq | exact r_p1 hq | exact r_p2 hq | exact r_p3 hq | exact r_p0 hq2 | exact r_p1 hq2 | exact r_p2 hq2 | exact r_p3 hq2) fl_X11_45 eX11_best_17 ?_
      refine g_ild1 eX11_best_20 ?_
      refine g_aald (by decide) (Nat.le_of_ble_eq_true rfl) (progIx hq).1 (progIx hq).2 eX11_best_21 ?_
      refine g_getI (ci := 6) (j := 5) (by first | rfl | exact kd_key hi | exact kd_sh hi | exact kd_ya hi | exact kd_pr hq | exact kd_pk hq | exact kd_pf hq | exact kd_ps hq | exact kd_po hq | exact kd_pr hq2 | exact kd_pk hq2 | exact kd_pf hq2 | exact kd_ps hq2 | exact kd_po hq2) (by first | decide | (unfold N0; omega)) (Nat.le_of_ble_eq_true rfl) (Nat.le_of_ble_eq_true rfl) rfl fl_X11_209 eX11_best_22 ?_
      refine g_bipush (v := 12) (by decide) eX11_best_25 ?_
      refine g_icmp_le eX11_best_27 (fun hb3 => ?_) (fun hb3 => ?_)
      · simp only [fa_le, Int32.reduceToInt] at hb3
        refine g_ald0 eX11_best_32 ?_
        refine g_getR (ci := 10) (j := 12) (by first | rfl | exact kd_key hi | exact kd_sh hi | exact kd_ya hi | exact kd_pr hq | exact kd_pk hq | exact kd_pf hq | exact kd_ps hq | exact kd_po hq | exact kd_pr hq2 | exact kd_pk hq2 | exact kd_pf hq2 | exact kd_ps hq2 | exact kd_po hq2) (by first | decide | (unfold N0; omega)) (Nat.le_of_ble_eq_true rfl) (Nat.le_of_ble_eq_true rfl) rfl (by first | rfl | exact r_key4 hi | exact r_sh0 hi | exact r_p0 hq | exact r_p1 hq | exact r_p2 hq | exact r_p3 hq | exact r_p0 hq2 | exact r_p1 hq2 | exact r_p2 hq2 | exact r_p3 hq2) fl_X11_87 eX11_best_33 ?_
        refine g_ald0 eX11_best_36 ?_
        refine g_getR (ci := 10) (j := 9) (by first | rfl | exact kd_key hi | exact kd_sh hi | exact kd_ya hi | exact kd_pr hq | exact kd_pk hq | exact kd_pf hq | exact kd_ps hq | exact kd_po hq | exact kd_pr hq2 | exact kd_pk hq2 | exact kd_pf hq2 | exact kd_ps hq2 | exact kd_po hq2) (by first | decide | (unfold N0; omega)) (Nat.le_of_ble_eq_true rfl) (Nat.le_of_ble_eq_true rfl) rfl (by first | rfl | exact r_key4 hi | exact r_sh0 hi | exact r_p0 hq | exact r_p1 hq | exact r_p2 hq | exact r_p3 hq | exact r_p0 hq2 | exact r_p1 hq2 | exact r_p2 hq2 | exact r_p3 hq2) fl_X11_45 eX11_best_37 ?_
        refine g_ild1 eX11_best_40 ?_
        refine g_aald (by decide) (Nat.le_of_ble_eq_true rfl) (progIx hq).1 (progIx hq).2 eX11_best_41 ?_
        refine g_ald0 eX11_best_42 ?_
        refine g_getR (ci := 10) (j := 6) (by first | rfl | exact kd_key hi | exact kd_sh hi | exact kd_ya hi | exact kd_pr hq | exact kd_pk hq | exact kd_pf hq | exact kd_ps hq | exact kd_po hq | exact kd_pr hq2 | exact kd_pk hq2 | exact kd_pf hq2 | exact kd_ps hq2 | exact kd_po hq2) (by first | decide | (unfold N0; omega)) (Nat.le_of_ble_eq_true rfl) (Nat.le_of_ble_eq_true rfl) rfl (by first | rfl | exact r_key4 hi | exact r_sh0 hi | exact r_p0 hq | exact r_p1 hq | exact r_p2 hq | exact r_p3 hq | exact r_p0 hq2 | exact r_p1 hq2 | exact r_p2 hq2 | exact r_p3 hq2) fl_X11_29 eX11_best_43 ?_
        refine g_ild2 eX11_best_46 ?_
        refine g_aald (by decide) (Nat.le_of_ble_eq_true rfl) (keyIx hi).1 (keyIx hi).2 eX11_best_47 ?_
        refine g_callVi (ci := 0) (m_bestLaying _ hq hi (x6 i hi9) (by rw [h4]; exact h3) (by rw [h4]; exact h5 q hq9)) (by first | rfl | exact kd_key hi | exact kd_sh hi | exact kd_ya hi | exact kd_pr hq | exact kd_pk hq | exact kd_pf hq | exact kd_ps hq | exact kd_po hq | exact kd_pr hq2 | exact kd_pk hq2 | exact kd_pf hq2 | exact kd_ps hq2 | exact kd_po hq2) (by first | decide | (unfold N0; omega)) (Nat.le_of_ble_eq_true rfl) rfl cv_X11_241 eX11_best_48 ⟨Nat.le_of_ble_eq_true rfl, Nat.le_of_ble_eq_true rfl⟩ rfl rfl (Nat.le_of_ble_eq_true rfl) (fun r u h => ?_)
        obtain ⟨hg, h⟩ := h
        rw [h4] at h
        refine g_iret rfl eX11_best_51 ⟨_, rfl, ?_⟩
        try dsimp only
        rw [if_pos ⟨hC.1, hC.2, by rw [e]; exact hb3⟩, e, e2]
        exact ⟨hg, h⟩
      · simp only [fa_le, Int32.reduceToInt] at hb3
        refine g_iconst (v := (-1)) (by decide) eX11_best_30 ?_
        refine g_iret rfl eX11_best_31 ⟨_, rfl, ?_⟩
        try dsimp only
        rw [if_neg (fun h => hb3 (by have h9 := h.2.2; rw [e] at h9; exact h9))]
        exact ⟨rfl, rfl⟩
set_option maxHeartbeats 4000000 in
theorem m_openly (st : St) {np : Nat} (hp : pOK st np) (x k v : Int32) : Mi l D cy 4 YX11_openly [.ref 0, .int x, .int k, .int v] st (fun r u => if (isS np x ∧ 0 ≤ k.toInt ∧ k.toInt < (st.1 (95 + 5 * (qI x)) 6).toInt) ∧ 0 ≤ v.toInt ∧ v.toInt < (st.1 0 0).toInt ^ ((st.1 (95 + 5 * (qI x)) 4).toInt).toNat then (∃ f, u = sR st 25 f) ∧ r.toInt = plO (gK st (qI x)) (gA st (qI x)) (gB st (qI x)) ((st.1 (95 + 5 * (qI x)) 5).toInt).toNat (st.1 0 0).toInt v.toInt ((st.1 (99 + 5 * (qI x)) (qI k)).toInt) else r = -1 ∧ u = st) := by
  have hp0 := hp
  obtain ⟨h1, h2, h3, h4, h5⟩ := hp
  refine M.ofG [some (.ref 0), some (.int x), some (.int k), some (.int v)] (by decide) (Nat.le_of_ble_eq_true rfl) rfl ?_
  intro xp xe xs xm xa xb xme xc xad xA
  refine g_ald0 eX11_openly_0 ?_
  refine g_ild1 eX11_openly_1 ?_
  refine g_ild2 eX11_openly_2 ?_
  refine g_callVi (ci := 10) (m_hasOut _ hp0 x k) (by first | rfl | exact kd_key hi | exact kd_sh hi | exact kd_ya hi | exact kd_pr hq | exact kd_pk hq | exact kd_pf hq | exact kd_ps hq | exact kd_po hq | exact kd_pr hq2 | exact kd_pk hq2 | exact kd_pf hq2 | exact kd_ps hq2 | exact kd_po hq2) (by first | decide | (unfold N0; omega)) (Nat.le_of_ble_eq_true rfl) rfl cv_X11_222 eX11_openly_3 ⟨Nat.le_of_ble_eq_true rfl, Nat.le_of_ble_eq_true rfl⟩ rfl rfl (Nat.le_of_ble_eq_true rfl) (fun r st h => ?_)
  obtain ⟨rfl, rfl⟩ := h
  refine g_if_eq eX11_openly_6 (fun hb => ?_) (fun hb => ?_)
  · rw [b2_eq0] at hb
    refine g_iconst (v := (-1)) (by decide) eX11_openly_33 ?_
    refine g_iret rfl eX11_openly_34 ⟨_, rfl, ?_⟩
    try dsimp only
    rw [if_neg (fun h => hb h.1)]
    exact ⟨rfl, rfl⟩
  · rw [b2_ne0] at hb
    have hC := hb
    refine g_ild3 eX11_openly_9 ?_
    refine g_if_lt eX11_openly_10 (fun hb2 => ?_) (fun hb2 => ?_)
    · simp only [fa_lt, Int32.reduceToInt] at hb2
      refine g_iconst (v := (-1)) (by decide) eX11_openly_33 ?_
      refine g_iret rfl eX11_openly_34 ⟨_, rfl, ?_⟩
      try dsimp only
      rw [if_neg (fun h => by have := h.2.1; omega)]
      exact ⟨rfl, rfl⟩
    · simp only [fa_lt, Int32.reduceToInt] at hb2
      obtain ⟨q, hq9, rfl⟩ := as_nI hb.1
      have hq : q < 4 := by omega
      have e : qI (nI q) = q := nI_clamp (by omega)
      rw [e] at hb
      have hg := h5 q hq9
      obtain ⟨w, hw9, rfl⟩ := as_nI (x := k) (n := 4) (by have := hg.2.2.2.2.2.1; omega)
      have ewt : (nI w).toInt = w := nI_toInt (by omega)
      have ew : qI (nI w) = w := nI_clamp (by omega)
      have hgi := hg.2.2.1
      have hgi2 := hg.2.2.2.1
      have ht24 : tOK (st.1 24 0) := by rw [h4]; exact h3
      have e4 : st.1 (95 + 5 * q) 4 = nI ((st.1 (95 + 5 * q) 4).toInt).toNat := by rw [fa_eq, nI_toInt (by omega)]; omega
      have mp := m_plainInputs (l := l) (D := D) (cy := cy) st ((st.1 (95 + 5 * q) 4).toInt).toNat (by omega) ht24
      rw [← e4, h4] at mp
      refine g_ild3 eX11_openly_13 ?_
      refine g_ald0 eX11_openly_14 ?_
      refine g_getR (ci := 10) (j := 12) (by first | rfl | exact kd_key hi | exact kd_sh hi | exact kd_ya hi | exact kd_pr hq | exact kd_pk hq | exact kd_pf hq | exact kd_ps hq | exact kd_po hq | exact kd_pr hq2 | exact kd_pk hq2 | exact kd_pf hq2 | exact kd_ps hq2 | exact kd_po hq2) (by first | decide | (unfold N0; omega)) (Nat.le_of_ble_eq_true rfl) (Nat.le_of_ble_eq_true rfl) rfl (by first | rfl | exact r_key4 hi | exact r_sh0 hi | exact r_p0 hq | exact r_p1 hq | exact r_p2 hq | exact r_p3 hq | exact r_p0 hq2 | exact r_p1 hq2 | exact r_p2 hq2 | exact r_p3 hq2) fl_X11_87 eX11_openly_15 ?_
      refine g_ald0 eX11_openly_18 ?_
      refine g_getR (ci := 10) (j := 9) (by first | rfl | exact kd_key hi | exact kd_sh hi | exact kd_ya hi | exact kd_pr hq | exact kd_pk hq | exact kd_pf hq | exact kd_ps hq | exact kd_po hq | exact kd_pr hq2 | exact kd_pk hq2 | exact kd_pf hq2 | exact kd_ps hq2 | exact kd_po hq2) (by first | decide | (unfold N0; omega)) (Nat.le_of_ble_eq_true rfl) (Nat.le_of_ble_eq_true rfl) rfl (by first | rfl | exact r_key4 hi | exact r_sh0 hi | exact r_p0 hq | exact r_p1 hq | exact r_p2 hq | exact r_p3 hq | exact r_p0 hq2 | exact r_p1 hq2 | exact r_p2 hq2 | exact r_p3 hq2) fl_X11_45 eX11_openly_19 ?_
      refine g_ild1 eX11_openly_22 ?_
      refine g_aald (by decide) (Nat.le_of_ble_eq_true rfl) (progIx hq).1 (progIx hq).2 eX11_openly_23 ?_
      refine g_getI (ci := 6) (j := 4) (by first | rfl | exact kd_key hi | exact kd_sh hi | exact kd_ya hi | exact kd_pr hq | exact kd_pk hq | exact kd_pf hq | exact kd_ps hq | exact kd_po hq | exact kd_pr hq2 | exact kd_pk hq2 | exact kd_pf hq2 | exact kd_ps hq2 | exact kd_po hq2) (by first | decide | (unfold N0; omega)) (Nat.le_of_ble_eq_true rfl) (Nat.le_of_ble_eq_true rfl) rfl fl_X11_245 eX11_openly_24 ?_
      refine g_callVi (ci := 0) (mp) (by first | rfl | exact kd_key hi | exact kd_sh hi | exact kd_ya hi | exact kd_pr hq | exact kd_pk hq | exact kd_pf hq | exact kd_ps hq | exact kd_po hq | exact kd_pr hq2 | exact kd_pk hq2 | exact kd_pf hq2 | exact kd_ps hq2 | exact kd_po hq2) (by first | decide | (unfold N0; omega)) (Nat.le_of_ble_eq_true rfl) rfl cv_X11_270 eX11_openly_27 ⟨Nat.le_of_ble_eq_true rfl, Nat.le_of_ble_eq_true rfl⟩ rfl rfl (Nat.le_of_ble_eq_true rfl) (fun N st hN => ?_)
      obtain ⟨rfl, hN⟩ := hN
      refine g_icmp_lt eX11_openly_30 (fun hb3 => ?_) (fun hb3 => ?_)
      · rw [fa_lt, hN] at hb3
        have hcod : -100 ≤ (st.1 (99 + 5 * q) w).toInt ∧ (st.1 (99 + 5 * q) w).toInt < 46 := by
          have a1 := hg.2.1
          have a3 := h3.2
          rcases hg.2.2.2.2.2.2.2 w (by omega) with (h9 | h9) | h9 <;> omega
        refine g_ald0 eX11_openly_35 ?_
        refine g_getR (ci := 10) (j := 12) (by first | rfl | exact kd_key hi | exact kd_sh hi | exact kd_ya hi | exact kd_pr hq | exact kd_pk hq | exact kd_pf hq | exact kd_ps hq | exact kd_po hq | exact kd_pr hq2 | exact kd_pk hq2 | exact kd_pf hq2 | exact kd_ps hq2 | exact kd_po hq2) (by first | decide | (unfold N0; omega)) (Nat.le_of_ble_eq_true rfl) (Nat.le_of_ble_eq_true rfl) rfl (by first | rfl | exact r_key4 hi | exact r_sh0 hi | exact r_p0 hq | exact r_p1 hq | exact r_p2 hq | exact r_p3 hq | exact r_p0 hq2 | exact r_p1 hq2 | exact r_p2 hq2 | exact r_p3 hq2) fl_X11_87 eX11_openly_36 ?_
        refine g_ild3 eX11_openly_39 ?_
        refine g_callVv (ci := 0) (m_setPlainIns _ v (by omega) ht24) (by first | rfl | exact kd_key hi | exact kd_sh hi | exact kd_ya hi | exact kd_pr hq | exact kd_pk hq | exact kd_pf hq | exact kd_ps hq | exact kd_po hq | exact kd_pr hq2 | exact kd_pk hq2 | exact kd_pf hq2 | exact kd_ps hq2 | exact kd_po hq2) (by first | decide | (unfold N0; omega)) (Nat.le_of_ble_eq_true rfl) rfl cv_X11_273 eX11_openly_40 ⟨Nat.le_of_ble_eq_true rfl, Nat.le_of_ble_eq_true rfl⟩ rfl rfl (Nat.le_of_ble_eq_true rfl) (fun u h => ?_)
        obtain ⟨f1, rfl, hf1⟩ := h
        refine g_ald0 eX11_openly_43 ?_
        refine g_getR (ci := 10) (j := 12) (by first | rfl | exact kd_key hi | exact kd_sh hi | exact kd_ya hi | exact kd_pr hq | exact kd_pk hq | exact kd_pf hq | exact kd_ps hq | exact kd_po hq | exact kd_pr hq2 | exact kd_pk hq2 | exact kd_pf hq2 | exact kd_ps hq2 | exact kd_po hq2) (by first | decide | (unfold N0; omega)) (Nat.le_of_ble_eq_true rfl) (Nat.le_of_ble_eq_true rfl) rfl (by first | rfl | exact r_key4 hi | exact r_sh0 hi | exact r_p0 hq | exact r_p1 hq | exact r_p2 hq | exact r_p3 hq | exact r_p0 hq2 | exact r_p1 hq2 | exact r_p2 hq2 | exact r_p3 hq2) fl_X11_87 eX11_openly_44 ?_
        refine g_ald0 eX11_openly_47 ?_
        refine g_getR (ci := 10) (j := 9) (by first | rfl | exact kd_key hi | exact kd_sh hi | exact kd_ya hi | exact kd_pr hq | exact kd_pk hq | exact kd_pf hq | exact kd_ps hq | exact kd_po hq | exact kd_pr hq2 | exact kd_pk hq2 | exact kd_pf hq2 | exact kd_ps hq2 | exact kd_po hq2) (by first | decide | (unfold N0; omega)) (Nat.le_of_ble_eq_true rfl) (Nat.le_of_ble_eq_true rfl) rfl (by first | rfl | exact r_key4 hi | exact r_sh0 hi | exact r_p0 hq | exact r_p1 hq | exact r_p2 hq | exact r_p3 hq | exact r_p0 hq2 | exact r_p1 hq2 | exact r_p2 hq2 | exact r_p3 hq2) fl_X11_45 eX11_openly_48 ?_
        refine g_ild1 eX11_openly_51 ?_
        refine g_aald (by decide) (Nat.le_of_ble_eq_true rfl) (progIx hq).1 (progIx hq).2 eX11_openly_52 ?_
        refine g_callVv (ci := 0) (m_workOpenly _ hq (by rw [sR_ne (by decide)]; exact ht24) (by rw [sR_ne (by decide), h4]; exact pg_sR (by decide) hg)) (by first | rfl | exact kd_key hi | exact kd_sh hi | exact kd_ya hi | exact kd_pr hq | exact kd_pk hq | exact kd_pf hq | exact kd_ps hq | exact kd_po hq | exact kd_pr hq2 | exact kd_pk hq2 | exact kd_pf hq2 | exact kd_ps hq2 | exact kd_po hq2) (by first | decide | (unfold N0; omega)) (Nat.le_of_ble_eq_true rfl) rfl cv_X11_276 eX11_openly_53 ⟨Nat.le_of_ble_eq_true rfl, Nat.le_of_ble_eq_true rfl⟩ rfl rfl (Nat.le_of_ble_eq_true rfl) (fun u h => ?_)
        obtain ⟨f2, rfl, hf2⟩ := h
        rw [sR_sR]
        refine g_ald0 eX11_openly_56 ?_
        refine g_getR (ci := 10) (j := 12) (by first | rfl | exact kd_key hi | exact kd_sh hi | exact kd_ya hi | exact kd_pr hq | exact kd_pk hq | exact kd_pf hq | exact kd_ps hq | exact kd_po hq | exact kd_pr hq2 | exact kd_pk hq2 | exact kd_pf hq2 | exact kd_ps hq2 | exact kd_po hq2) (by first | decide | (unfold N0; omega)) (Nat.le_of_ble_eq_true rfl) (Nat.le_of_ble_eq_true rfl) rfl (by first | rfl | exact r_key4 hi | exact r_sh0 hi | exact r_p0 hq | exact r_p1 hq | exact r_p2 hq | exact r_p3 hq | exact r_p0 hq2 | exact r_p1 hq2 | exact r_p2 hq2 | exact r_p3 hq2) fl_X11_87 eX11_openly_57 ?_
        refine g_ald0 eX11_openly_60 ?_
        refine g_getR (ci := 10) (j := 9) (by first | rfl | exact kd_key hi | exact kd_sh hi | exact kd_ya hi | exact kd_pr hq | exact kd_pk hq | exact kd_pf hq | exact kd_ps hq | exact kd_po hq | exact kd_pr hq2 | exact kd_pk hq2 | exact kd_pf hq2 | exact kd_ps hq2 | exact kd_po hq2) (by first | decide | (unfold N0; omega)) (Nat.le_of_ble_eq_true rfl) (Nat.le_of_ble_eq_true rfl) rfl (by first | rfl | exact r_key4 hi | exact r_sh0 hi | exact r_p0 hq | exact r_p1 hq | exact r_p2 hq | exact r_p3 hq | exact r_p0 hq2 | exact r_p1 hq2 | exact r_p2 hq2 | exact r_p3 hq2) fl_X11_45 eX11_openly_61 ?_
        refine g_ild1 eX11_openly_64 ?_
        refine g_aald (by decide) (Nat.le_of_ble_eq_true rfl) (progIx hq).1 (progIx hq).2 eX11_openly_65 ?_
        refine g_ild2 eX11_openly_66 ?_
        refine g_callVi (ci := 0) (m_plainOut _ hq w hw9 (by rw [sR_hi (by decide) (show 83 ≤ 99 + 5 * q by omega)]; exact hcod)) (by first | rfl | exact kd_key hi | exact kd_sh hi | exact kd_ya hi | exact kd_pr hq | exact kd_pk hq | exact kd_pf hq | exact kd_ps hq | exact kd_po hq | exact kd_pr hq2 | exact kd_pk hq2 | exact kd_pf hq2 | exact kd_ps hq2 | exact kd_po hq2) (by first | decide | (unfold N0; omega)) (Nat.le_of_ble_eq_true rfl) rfl cv_X11_280 eX11_openly_67 ⟨Nat.le_of_ble_eq_true rfl, Nat.le_of_ble_eq_true rfl⟩ rfl rfl (Nat.le_of_ble_eq_true rfl) (fun r u h => ?_)
        obtain ⟨rfl, h⟩ := h
        rw [sR_hi (by decide) (show 83 ≤ 99 + 5 * q by omega), sR_at] at h
        rw [gK_sR (by decide), gA_sR (by decide), gB_sR (by decide), sR_ne (by decide), sR_hi (by decide) (show 83 ≤ 95 + 5 * q by omega), sR_at, h4] at hf2
        rw [h4] at hf1
        rw [show (fun j => (f2 j).toInt) = runSl (gK st q) (gA st q) (gB st q) (st.1 0 0).toInt (fun j => (f1 j).toInt) ((st.1 (95 + 5 * q) 5).toInt).toNat from funext hf2, out_cong hg hf1.2 (by omega)] at h
        refine g_iret rfl eX11_openly_70 ⟨_, rfl, ?_⟩
        try dsimp only
        rw [if_pos ⟨hC, by omega, by rw [e]; exact hb3⟩, e, ew]
        exact ⟨⟨f2, rfl⟩, h⟩
      · rw [fa_lt, hN] at hb3
        refine g_iconst (v := (-1)) (by decide) eX11_openly_33 ?_
        refine g_iret rfl eX11_openly_34 ⟨_, rfl, ?_⟩
        try dsimp only
        rw [if_neg (fun h => hb3 (by have h9 := h.2.2; rw [e] at h9; exact h9))]
        exact ⟨rfl, rfl⟩
/-- at how many inputs two programs answer otherwise -/
def difN (st : St) (q r : Nat) : Nat := fb_ct (difB st (st.1 0 0).toInt q r) ((st.1 0 0).toInt ^ ((st.1 (95 + 5 * q) 4).toInt).toNat).toNat
set_option maxHeartbeats 4000000 in
theorem m_differ (st : St) {np : Nat} (hp : pOK st np) (x y : Int32) (hca : ∀ a b, a < np → b < np → st.1 29 (4 * a + b) = -1 ∨ (st.1 29 (4 * a + b)).toInt = difN st a b) : Mi l D cy 5 YX11_differ [.ref 0, .int x, .int y] st (fun z u => if isS np x ∧ isS np y ∧ (st.1 (95 + 5 * (qI x)) 4).toInt = (st.1 (95 + 5 * (qI y)) 4).toInt ∧ (st.1 (95 + 5 * (qI x)) 4).toInt ≤ 4 ∧ (st.1 (95 + 5 * (qI x)) 6).toInt = (st.1 (95 + 5 * (qI y)) 6).toInt then z.toInt = difN st (qI x) (qI y) ∧ (u = st ∨ ∃ f g, u = sI (sR (sR st 25 f) 27 g) 29 (4 * qI x + qI y) z) else z = -1 ∧ u = st) := by
  obtain ⟨h1, h2, h3, h4, h5⟩ := hp
  have hcn : (st.1 0 10).toInt = np := by rw [h1, nI_toInt (by omega)]
  refine M.ofG [some (.ref 0), some (.int x), some (.int y), none, none, none] (by decide) (Nat.le_of_ble_eq_true rfl) rfl ?_
  intro xp xe xs xm xa xb xme xc xad xA
  refine g_ald0 eX11_differ_0 ?_
  refine g_ild1 eX11_differ_1 ?_
  refine g_callVi (ci := 10) (m_isProgram _ x) (by first | rfl | exact kd_key hi | exact kd_sh hi | exact kd_ya hi | exact kd_pr hq | exact kd_pk hq | exact kd_pf hq | exact kd_ps hq | exact kd_po hq | exact kd_pr hq2 | exact kd_pk hq2 | exact kd_pf hq2 | exact kd_ps hq2 | exact kd_po hq2) (by first | decide | (unfold N0; omega)) (Nat.le_of_ble_eq_true rfl) rfl cv_X11_206 eX11_differ_2 ⟨Nat.le_of_ble_eq_true rfl, Nat.le_of_ble_eq_true rfl⟩ rfl rfl (Nat.le_of_ble_eq_true rfl) (fun z st h => ?_)
  obtain ⟨rfl, rfl⟩ := h
  refine g_if_eq eX11_differ_5 (fun hb => ?_) (fun hb => ?_)
  · rw [b2_eq0, hcn] at hb
    refine g_iconst (v := (-1)) (by decide) eX11_differ_16 ?_
    refine g_iret rfl eX11_differ_17 ⟨_, rfl, ?_⟩
    try dsimp only
    rw [if_neg (fun h => hb h.1)]
    exact ⟨rfl, rfl⟩
  · rw [b2_ne0, hcn] at hb
    refine g_ald0 eX11_differ_8 ?_
    refine g_ild2 eX11_differ_9 ?_
    refine g_callVi (ci := 10) (m_isProgram _ y) (by first | rfl | exact kd_key hi | exact kd_sh hi | exact kd_ya hi | exact kd_pr hq | exact kd_pk hq | exact kd_pf hq | exact kd_ps hq | exact kd_po hq | exact kd_pr hq2 | exact kd_pk hq2 | exact kd_pf hq2 | exact kd_ps hq2 | exact kd_po hq2) (by first | decide | (unfold N0; omega)) (Nat.le_of_ble_eq_true rfl) rfl cv_X11_206 eX11_differ_10 ⟨Nat.le_of_ble_eq_true rfl, Nat.le_of_ble_eq_true rfl⟩ rfl rfl (Nat.le_of_ble_eq_true rfl) (fun z st h => ?_)
    obtain ⟨rfl, rfl⟩ := h
    refine g_if_ne eX11_differ_13 (fun hb2 => ?_) (fun hb2 => ?_)
    · rw [b2_ne0, hcn] at hb2
      have hC1 := hb
      have hC2 := hb2
      obtain ⟨q, hq9, rfl⟩ := as_nI hb
      obtain ⟨r, hr9, rfl⟩ := as_nI hb2
      have hq : q < 4 := by omega
      have hq2 : r < 4 := by omega
      have e : qI (nI q) = q := nI_clamp (by omega)
      have e2 : qI (nI r) = r := nI_clamp (by omega)
      have hg := h5 q hq9
      have hg2 := h5 r hr9
      refine g_ald0 eX11_differ_18 ?_
      refine g_getR (ci := 10) (j := 9) (by first | rfl | exact kd_key hi | exact kd_sh hi | exact kd_ya hi | exact kd_pr hq | exact kd_pk hq | exact kd_pf hq | exact kd_ps hq | exact kd_po hq | exact kd_pr hq2 | exact kd_pk hq2 | exact kd_pf hq2 | exact kd_ps hq2 | exact kd_po hq2) (by first | decide | (unfold N0; omega)) (Nat.le_of_ble_eq_true rfl) (Nat.le_of_ble_eq_true rfl) rfl (by first | rfl | exact r_key4 hi | exact r_sh0 hi | exact r_p0 hq | exact r_p1 hq | exact r_p2 hq | exact r_p3 hq | exact r_p0 hq2 | exact r_p1 hq2 | exact r_p2 hq2 | exact r_p3 hq2) fl_X11_45 eX11_differ_19 ?_
      refine g_ild1 eX11_differ_22 ?_
      refine g_aald (by decide) (Nat.le_of_ble_eq_true rfl) (progIx hq).1 (progIx hq).2 eX11_differ_23 ?_
      refine g_ast3 rfl (Nat.le_of_ble_eq_true rfl) eX11_differ_24 ?_
      refine g_ald0 eX11_differ_25 ?_
      refine g_getR (ci := 10) (j := 9) (by first | rfl | exact kd_key hi | exact kd_sh hi | exact kd_ya hi | exact kd_pr hq | exact kd_pk hq | exact kd_pf hq | exact kd_ps hq | exact kd_po hq | exact kd_pr hq2 | exact kd_pk hq2 | exact kd_pf hq2 | exact kd_ps hq2 | exact kd_po hq2) (by first | decide | (unfold N0; omega)) (Nat.le_of_ble_eq_true rfl) (Nat.le_of_ble_eq_true rfl) rfl (by first | rfl | exact r_key4 hi | exact r_sh0 hi | exact r_p0 hq | exact r_p1 hq | exact r_p2 hq | exact r_p3 hq | exact r_p0 hq2 | exact r_p1 hq2 | exact r_p2 hq2 | exact r_p3 hq2) fl_X11_45 eX11_differ_26 ?_
      refine g_ild2 eX11_differ_29 ?_
      refine g_aald (by decide) (Nat.le_of_ble_eq_true rfl) (progIx hq2).1 (progIx hq2).2 eX11_differ_30 ?_
      refine g_ast4 rfl (Nat.le_of_ble_eq_true rfl) eX11_differ_31 ?_
      refine g_ald3 eX11_differ_33 ?_
      refine g_getI (ci := 6) (j := 4) (by first | rfl | exact kd_key hi | exact kd_sh hi | exact kd_ya hi | exact kd_pr hq | exact kd_pk hq | exact kd_pf hq | exact kd_ps hq | exact kd_po hq | exact kd_pr hq2 | exact kd_pk hq2 | exact kd_pf hq2 | exact kd_ps hq2 | exact kd_po hq2) (by first | decide | (unfold N0; omega)) (Nat.le_of_ble_eq_true rfl) (Nat.le_of_ble_eq_true rfl) rfl fl_X11_245 eX11_differ_34 ?_
      refine g_ald4 eX11_differ_37 ?_
      refine g_getI (ci := 6) (j := 4) (by first | rfl | exact kd_key hi | exact kd_sh hi | exact kd_ya hi | exact kd_pr hq | exact kd_pk hq | exact kd_pf hq | exact kd_ps hq | exact kd_po hq | exact kd_pr hq2 | exact kd_pk hq2 | exact kd_pf hq2 | exact kd_ps hq2 | exact kd_po hq2) (by first | decide | (unfold N0; omega)) (Nat.le_of_ble_eq_true rfl) (Nat.le_of_ble_eq_true rfl) rfl fl_X11_245 eX11_differ_39 ?_
      refine g_icmp_ne eX11_differ_42 (fun hb3 => ?_) (fun hb3 => ?_)
      · rw [fa_eq] at hb3
        refine g_iconst (v := (-1)) (by decide) eX11_differ_65 ?_
        refine g_iret rfl eX11_differ_66 ⟨_, rfl, ?_⟩
        try dsimp only
        rw [if_neg (fun h => hb3 (by have h9 := h.2.2.1; rw [e, e2] at h9; exact h9))]
        exact ⟨rfl, rfl⟩
      · rw [fa_eq] at hb3
        refine g_ald3 eX11_differ_45 ?_
        refine g_getI (ci := 6) (j := 4) (by first | rfl | exact kd_key hi | exact kd_sh hi | exact kd_ya hi | exact kd_pr hq | exact kd_pk hq | exact kd_pf hq | exact kd_ps hq | exact kd_po hq | exact kd_pr hq2 | exact kd_pk hq2 | exact kd_pf hq2 | exact kd_ps hq2 | exact kd_po hq2) (by first | decide | (unfold N0; omega)) (Nat.le_of_ble_eq_true rfl) (Nat.le_of_ble_eq_true rfl) rfl fl_X11_245 eX11_differ_46 ?_
        refine g_iconst (v := 4) (by decide) eX11_differ_49 ?_
        refine g_icmp_gt eX11_differ_50 (fun hb4 => ?_) (fun hb4 => ?_)
        · simp only [fa_lt, Int32.reduceToInt] at hb4
          refine g_iconst (v := (-1)) (by decide) eX11_differ_65 ?_
          refine g_iret rfl eX11_differ_66 ⟨_, rfl, ?_⟩
          try dsimp only
          rw [if_neg (fun h => by have h9 := h.2.2.2.1; rw [e] at h9; omega)]
          exact ⟨rfl, rfl⟩
        · simp only [fa_lt, Int32.reduceToInt] at hb4
          refine g_ald3 eX11_differ_53 ?_
          refine g_getI (ci := 6) (j := 6) (by first | rfl | exact kd_key hi | exact kd_sh hi | exact kd_ya hi | exact kd_pr hq | exact kd_pk hq | exact kd_pf hq | exact kd_ps hq | exact kd_po hq | exact kd_pr hq2 | exact kd_pk hq2 | exact kd_pf hq2 | exact kd_ps hq2 | exact kd_po hq2) (by first | decide | (unfold N0; omega)) (Nat.le_of_ble_eq_true rfl) (Nat.le_of_ble_eq_true rfl) rfl fl_X11_251 eX11_differ_54 ?_
          refine g_ald4 eX11_differ_57 ?_
          refine g_getI (ci := 6) (j := 6) (by first | rfl | exact kd_key hi | exact kd_sh hi | exact kd_ya hi | exact kd_pr hq | exact kd_pk hq | exact kd_pf hq | exact kd_ps hq | exact kd_po hq | exact kd_pr hq2 | exact kd_pk hq2 | exact kd_pf hq2 | exact kd_ps hq2 | exact kd_po hq2) (by first | decide | (unfold N0; omega)) (Nat.le_of_ble_eq_true rfl) (Nat.le_of_ble_eq_true rfl) rfl fl_X11_251 eX11_differ_59 ?_
          refine g_icmp_eq eX11_differ_62 (fun hb5 => ?_) (fun hb5 => ?_)
          · rw [fa_eq] at hb5
            have ei : nI q * 4 + nI r = nI (4 * q + r) := by
              rw [show (4 : Int32) = nI 4 from rfl, pk_mul, nI_add]
              congr 1
              omega
            have hC : isS np (nI q) ∧ isS np (nI r) ∧ (st.1 (95 + 5 * qI (nI q)) 4).toInt = (st.1 (95 + 5 * qI (nI r)) 4).toInt ∧ (st.1 (95 + 5 * qI (nI q)) 4).toInt ≤ 4 ∧ (st.1 (95 + 5 * qI (nI q)) 6).toInt = (st.1 (95 + 5 * qI (nI r)) 6).toInt := ⟨hC1, hC2, by rw [e, e2]; exact hb3, by rw [e]; omega, by rw [e, e2]; exact hb5⟩
            refine g_ild1 eX11_differ_67 ?_
            refine g_iconst (v := 4) (by decide) eX11_differ_68 ?_
            refine g_imul eX11_differ_69 ?_
            refine g_ild2 eX11_differ_70 ?_
            refine g_iadd eX11_differ_71 ?_
            refine g_ist5 rfl (Nat.le_of_ble_eq_true rfl) eX11_differ_72 ?_
            rw [ei]
            refine g_ald0 eX11_differ_74 ?_
            refine g_getR (ci := 10) (j := 14) (by first | rfl | exact kd_key hi | exact kd_sh hi | exact kd_ya hi | exact kd_pr hq | exact kd_pk hq | exact kd_pf hq | exact kd_ps hq | exact kd_po hq | exact kd_pr hq2 | exact kd_pk hq2 | exact kd_pf hq2 | exact kd_ps hq2 | exact kd_po hq2) (by first | decide | (unfold N0; omega)) (Nat.le_of_ble_eq_true rfl) (Nat.le_of_ble_eq_true rfl) rfl (by first | rfl | exact r_key4 hi | exact r_sh0 hi | exact r_p0 hq | exact r_p1 hq | exact r_p2 hq | exact r_p3 hq | exact r_p0 hq2 | exact r_p1 hq2 | exact r_p2 hq2 | exact r_p3 hq2) fl_X11_59 eX11_differ_75 ?_
            refine g_ild5 eX11_differ_78 ?_
            refine g_iald (by first | rfl | exact kd_key hi | exact kd_sh hi | exact kd_ya hi | exact kd_pr hq | exact kd_pk hq | exact kd_pf hq | exact kd_ps hq | exact kd_po hq | exact kd_pr hq2 | exact kd_pk hq2 | exact kd_pf hq2 | exact kd_ps hq2 | exact kd_po hq2) (by first | decide | (unfold N0; omega)) (vp_in_nI (n := 4 * q + r) (N := 16) (by omega) (by decide)) eX11_differ_80 ?_
            refine g_iconst (v := (-1)) (by decide) eX11_differ_81 ?_
            rw [nI_clamp (by omega)]
            refine g_icmp_ne eX11_differ_82 (fun hb6 => ?_) (fun hb6 => ?_)
            · refine g_ald0 eX11_differ_102 ?_
              refine g_getR (ci := 10) (j := 14) (by first | rfl | exact kd_key hi | exact kd_sh hi | exact kd_ya hi | exact kd_pr hq | exact kd_pk hq | exact kd_pf hq | exact kd_ps hq | exact kd_po hq | exact kd_pr hq2 | exact kd_pk hq2 | exact kd_pf hq2 | exact kd_ps hq2 | exact kd_po hq2) (by first | decide | (unfold N0; omega)) (Nat.le_of_ble_eq_true rfl) (Nat.le_of_ble_eq_true rfl) rfl (by first | rfl | exact r_key4 hi | exact r_sh0 hi | exact r_p0 hq | exact r_p1 hq | exact r_p2 hq | exact r_p3 hq | exact r_p0 hq2 | exact r_p1 hq2 | exact r_p2 hq2 | exact r_p3 hq2) fl_X11_59 eX11_differ_103 ?_
              refine g_ild5 eX11_differ_106 ?_
              refine g_iald (by first | rfl | exact kd_key hi | exact kd_sh hi | exact kd_ya hi | exact kd_pr hq | exact kd_pk hq | exact kd_pf hq | exact kd_ps hq | exact kd_po hq | exact kd_pr hq2 | exact kd_pk hq2 | exact kd_pf hq2 | exact kd_ps hq2 | exact kd_po hq2) (by first | decide | (unfold N0; omega)) (vp_in_nI (n := 4 * q + r) (N := 16) (by omega) (by decide)) eX11_differ_108 ?_
              refine g_iret rfl eX11_differ_109 ⟨_, rfl, ?_⟩
              try dsimp only
              rw [nI_clamp (by omega), if_pos hC, e, e2]
              rcases hca q r hq9 hr9 with h9 | h9
              · exact absurd h9 hb6
              · exact ⟨h9, Or.inl rfl⟩
            · refine g_ald0 eX11_differ_85 ?_
              refine g_getR (ci := 10) (j := 14) (by first | rfl | exact kd_key hi | exact kd_sh hi | exact kd_ya hi | exact kd_pr hq | exact kd_pk hq | exact kd_pf hq | exact kd_ps hq | exact kd_po hq | exact kd_pr hq2 | exact kd_pk hq2 | exact kd_pf hq2 | exact kd_ps hq2 | exact kd_po hq2) (by first | decide | (unfold N0; omega)) (Nat.le_of_ble_eq_true rfl) (Nat.le_of_ble_eq_true rfl) rfl (by first | rfl | exact r_key4 hi | exact r_sh0 hi | exact r_p0 hq | exact r_p1 hq | exact r_p2 hq | exact r_p3 hq | exact r_p0 hq2 | exact r_p1 hq2 | exact r_p2 hq2 | exact r_p3 hq2) fl_X11_59 eX11_differ_86 ?_
              refine g_ild5 eX11_differ_89 ?_
              refine g_ald0 eX11_differ_91 ?_
              refine g_getR (ci := 10) (j := 12) (by first | rfl | exact kd_key hi | exact kd_sh hi | exact kd_ya hi | exact kd_pr hq | exact kd_pk hq | exact kd_pf hq | exact kd_ps hq | exact kd_po hq | exact kd_pr hq2 | exact kd_pk hq2 | exact kd_pf hq2 | exact kd_ps hq2 | exact kd_po hq2) (by first | decide | (unfold N0; omega)) (Nat.le_of_ble_eq_true rfl) (Nat.le_of_ble_eq_true rfl) rfl (by first | rfl | exact r_key4 hi | exact r_sh0 hi | exact r_p0 hq | exact r_p1 hq | exact r_p2 hq | exact r_p3 hq | exact r_p0 hq2 | exact r_p1 hq2 | exact r_p2 hq2 | exact r_p3 hq2) fl_X11_87 eX11_differ_92 ?_
              refine g_ald3 eX11_differ_95 ?_
              refine g_ald4 eX11_differ_96 ?_
              refine g_callVi (ci := 0) (m_differing _ hq hq2 (by rw [h4]; exact h3) (by rw [h4]; exact hg) (by rw [h4]; exact hg2) hb3 hb5 (by omega)) (by first | rfl | exact kd_key hi | exact kd_sh hi | exact kd_ya hi | exact kd_pr hq | exact kd_pk hq | exact kd_pf hq | exact kd_ps hq | exact kd_po hq | exact kd_pr hq2 | exact kd_pk hq2 | exact kd_pf hq2 | exact kd_ps hq2 | exact kd_po hq2) (by first | decide | (unfold N0; omega)) (Nat.le_of_ble_eq_true rfl) rfl cv_X11_284 eX11_differ_98 ⟨Nat.le_of_ble_eq_true rfl, Nat.le_of_ble_eq_true rfl⟩ rfl rfl (Nat.le_of_ble_eq_true rfl) (fun z u h => ?_)
              obtain ⟨⟨f, g, rfl⟩, hz⟩ := h
              rw [h4] at hz
              refine g_iast (by first | rfl | exact kd_key hi | exact kd_sh hi | exact kd_ya hi | exact kd_pr hq | exact kd_pk hq | exact kd_pf hq | exact kd_ps hq | exact kd_po hq | exact kd_pr hq2 | exact kd_pk hq2 | exact kd_pf hq2 | exact kd_ps hq2 | exact kd_po hq2) (by first | decide | (unfold N0; omega)) (vp_in_nI (n := 4 * q + r) (N := 16) (by omega) (by decide)) eX11_differ_101 ?_
              refine g_ald0 eX11_differ_102 ?_
              refine g_getR (ci := 10) (j := 14) (by first | rfl | exact kd_key hi | exact kd_sh hi | exact kd_ya hi | exact kd_pr hq | exact kd_pk hq | exact kd_pf hq | exact kd_ps hq | exact kd_po hq | exact kd_pr hq2 | exact kd_pk hq2 | exact kd_pf hq2 | exact kd_ps hq2 | exact kd_po hq2) (by first | decide | (unfold N0; omega)) (Nat.le_of_ble_eq_true rfl) (Nat.le_of_ble_eq_true rfl) rfl (by first | rfl | exact r_key4 hi | exact r_sh0 hi | exact r_p0 hq | exact r_p1 hq | exact r_p2 hq | exact r_p3 hq | exact r_p0 hq2 | exact r_p1 hq2 | exact r_p2 hq2 | exact r_p3 hq2) fl_X11_59 eX11_differ_103 ?_
              refine g_ild5 eX11_differ_106 ?_
              refine g_iald (by first | rfl | exact kd_key hi | exact kd_sh hi | exact kd_ya hi | exact kd_pr hq | exact kd_pk hq | exact kd_pf hq | exact kd_ps hq | exact kd_po hq | exact kd_pr hq2 | exact kd_pk hq2 | exact kd_pf hq2 | exact kd_ps hq2 | exact kd_po hq2) (by first | decide | (unfold N0; omega)) (vp_in_nI (n := 4 * q + r) (N := 16) (by omega) (by decide)) eX11_differ_108 ?_
              refine g_iret rfl eX11_differ_109 ⟨_, rfl, ?_⟩
              try dsimp only
              rw [nI_clamp (by omega), if_pos hC, e, e2, sI_1, if_pos (show 29 = 29 ∧ 4 * q + r = 4 * q + r from ⟨rfl, rfl⟩)]
              exact ⟨hz, Or.inr ⟨f, g, rfl⟩⟩
          · rw [fa_eq] at hb5
            refine g_iconst (v := (-1)) (by decide) eX11_differ_65 ?_
            refine g_iret rfl eX11_differ_66 ⟨_, rfl, ?_⟩
            try dsimp only
            rw [if_neg (fun h => hb5 (by have h9 := h.2.2.2.2; rw [e, e2] at h9; exact h9))]
            exact ⟨rfl, rfl⟩
    · rw [b2_eq0, hcn] at hb2
      refine g_iconst (v := (-1)) (by decide) eX11_differ_16 ?_
      refine g_iret rfl eX11_differ_17 ⟨_, rfl, ?_⟩
      try dsimp only
      rw [if_neg (fun h => hb2 h.2.1)]
      exact ⟨rfl, rfl⟩
/-- what checks tells -/
def chkF (n w r k : Int) : Int := if 1 ≤ n ∧ n ≤ 20 ∧ 0 ≤ w ∧ w ≤ n ∧ 0 ≤ r ∧ r ≤ n then (if k = 0 then chF n r else if k = 1 then chF (n - w) r else -1) else -1
theorem m_checks (st : St) (n w r k : Int32) : Mi l D cy 1 YX11_checks [.ref 0, .int n, .int w, .int r, .int k] st (fun z u => u = st ∧ z.toInt = chkF n.toInt w.toInt r.toInt k.toInt) := by
  refine M.ofG [some (.ref 0), some (.int n), some (.int w), some (.int r), some (.int k)] (by decide) (Nat.le_of_ble_eq_true rfl) rfl ?_
  intro xp xe xs xm xa xb xme xc xad xA
  have no : ¬ (1 ≤ n.toInt ∧ n.toInt ≤ 20 ∧ 0 ≤ w.toInt ∧ w.toInt ≤ n.toInt ∧ 0 ≤ r.toInt ∧ r.toInt ≤ n.toInt) → G xp l xe (rmd (1)) xs xm xa xb xme xc D cy xad xA (YX11_checks.2.1, YX11_checks.1.cls, YX11_checks.2.2.1, YX11_checks.2.2.2) (Pi (fun (z : Int32) (u : St) => u = st ∧ z.toInt = chkF n.toInt w.toInt r.toInt k.toInt)) 29 ([some (.ref 0), some (.int n), some (.int w), some (.int r), some (.int k)]) ([]) (st) := by
    intro h
    refine g_iconst (v := (-1)) (by decide) eX11_checks_29 ?_
    refine g_iret rfl eX11_checks_30 ⟨_, rfl, ?_⟩
    try dsimp only
    unfold chkF
    rw [if_neg h]
    exact ⟨rfl, rfl⟩
  have yes : (1 ≤ n.toInt ∧ n.toInt ≤ 20 ∧ 0 ≤ w.toInt ∧ w.toInt ≤ n.toInt ∧ 0 ≤ r.toInt ∧ r.toInt ≤ n.toInt) → G xp l xe (rmd (1)) xs xm xa xb xme xc D cy xad xA (YX11_checks.2.1, YX11_checks.1.cls, YX11_checks.2.2.1, YX11_checks.2.2.2) (Pi (fun (z : Int32) (u : St) => u = st ∧ z.toInt = chkF n.toInt w.toInt r.toInt k.toInt)) 31 ([some (.ref 0), some (.int n), some (.int w), some (.int r), some (.int k)]) ([]) (st) := by
    intro hC
    refine g_ild4 eX11_checks_31 ?_
    by_cases k0 : k.toInt = 0
    · refine g_lookup (off := 27) (tgt := 60) eX11_checks_33 (by decide) (by rw [k0]; rfl) (by decide) ?_
      refine g_ild1 eX11_checks_60 ?_
      refine g_ild3 eX11_checks_61 ?_
      refine g_callSi (m_choices _ n r (by omega) (by omega)) cs_X11_288 eX11_checks_62 ⟨Nat.le_of_ble_eq_true rfl, Nat.le_of_ble_eq_true rfl⟩ rfl rfl (Nat.le_of_ble_eq_true rfl) (fun z st h => ?_)
      obtain ⟨rfl, h⟩ := h
      refine g_iret rfl eX11_checks_65 ⟨_, rfl, ?_⟩
      try dsimp only
      unfold chkF
      rw [if_pos hC, if_pos k0]
      exact ⟨rfl, h⟩
    · by_cases k1 : k.toInt = 1
      · refine g_lookup (off := 33) (tgt := 66) eX11_checks_33 (by decide) (by rw [k1]; rfl) (by decide) ?_
        have es : (n - w).toInt = n.toInt - w.toInt := fb_subI (by omega) (by omega)
        refine g_ild1 eX11_checks_66 ?_
        refine g_ild2 eX11_checks_67 ?_
        refine g_isub eX11_checks_68 ?_
        refine g_ild3 eX11_checks_69 ?_
        refine g_callSi (m_choices _ _ r (by omega) (by omega)) cs_X11_288 eX11_checks_70 ⟨Nat.le_of_ble_eq_true rfl, Nat.le_of_ble_eq_true rfl⟩ rfl rfl (Nat.le_of_ble_eq_true rfl) (fun z st h => ?_)
        obtain ⟨rfl, h⟩ := h
        refine g_iret rfl eX11_checks_73 ⟨_, rfl, ?_⟩
        try dsimp only
        unfold chkF
        rw [if_pos hC, if_neg k0, if_pos k1, ← es]
        exact ⟨rfl, h⟩
      · refine g_lookup (off := 41) (tgt := 74) eX11_checks_33 (by decide) (by simp only [Op.lookupswitch.offset_cons]; rw [if_neg (by omega), if_neg (by omega)]; rfl) (by decide) ?_
        refine g_iconst (v := (-1)) (by decide) eX11_checks_74 ?_
        refine g_iret rfl eX11_checks_75 ⟨_, rfl, ?_⟩
        try dsimp only
        unfold chkF
        rw [if_pos hC, if_neg k0, if_neg k1]
        exact ⟨rfl, rfl⟩
  refine g_ild1 eX11_checks_0 ?_
  refine g_iconst (v := 1) (by decide) eX11_checks_1 ?_
  refine g_icmp_lt eX11_checks_2 (fun hb2 => ?_) (fun hb2 => ?_)
  · try simp only [fa_lt, fa_le, fa_eq, Int32.reduceToInt] at hb2
    exact no (by omega)
  · try simp only [fa_lt, fa_le, fa_eq, Int32.reduceToInt] at hb2
    refine g_ild1 eX11_checks_5 ?_
    refine g_bipush (v := 20) (by decide) eX11_checks_6 ?_
    refine g_icmp_gt eX11_checks_8 (fun hb8 => ?_) (fun hb8 => ?_)
    · try simp only [fa_lt, fa_le, fa_eq, Int32.reduceToInt] at hb8
      exact no (by omega)
    · try simp only [fa_lt, fa_le, fa_eq, Int32.reduceToInt] at hb8
      refine g_ild2 eX11_checks_11 ?_
      refine g_if_lt eX11_checks_12 (fun hb12 => ?_) (fun hb12 => ?_)
      · try simp only [fa_lt, fa_le, fa_eq, Int32.reduceToInt] at hb12
        exact no (by omega)
      · try simp only [fa_lt, fa_le, fa_eq, Int32.reduceToInt] at hb12
        refine g_ild2 eX11_checks_15 ?_
        refine g_ild1 eX11_checks_16 ?_
        refine g_icmp_gt eX11_checks_17 (fun hb17 => ?_) (fun hb17 => ?_)
        · try simp only [fa_lt, fa_le, fa_eq, Int32.reduceToInt] at hb17
          exact no (by omega)
        · try simp only [fa_lt, fa_le, fa_eq, Int32.reduceToInt] at hb17
          refine g_ild3 eX11_checks_20 ?_
          refine g_if_lt eX11_checks_21 (fun hb21 => ?_) (fun hb21 => ?_)
          · try simp only [fa_lt, fa_le, fa_eq, Int32.reduceToInt] at hb21
            exact no (by omega)
          · try simp only [fa_lt, fa_le, fa_eq, Int32.reduceToInt] at hb21
            refine g_ild3 eX11_checks_24 ?_
            refine g_ild1 eX11_checks_25 ?_
            refine g_icmp_le eX11_checks_26 (fun hb26 => ?_) (fun hb26 => ?_)
            · try simp only [fa_lt, fa_le, fa_eq, Int32.reduceToInt] at hb26
              exact yes (by omega)
            · try simp only [fa_lt, fa_le, fa_eq, Int32.reduceToInt] at hb26
              exact no (by omega)
theorem m_countOfProgram (st : St) {np : Nat} (hp : pOK st np) (x : Int32) : Mi l D cy 1 YX11_countOfProgram [.ref 0, .int x] st (fun r u => u = st ∧ r.toInt = if 10 ≤ x.toInt ∧ x.toInt < 10 + (np : Int) then (st.1 (95 + 5 * (x.toInt-10).toNat) 4).toInt else if 20 ≤ x.toInt ∧ x.toInt < 20 + (np : Int) then (st.1 (95 + 5 * (x.toInt-20).toNat) 6).toInt else -1) := by
  obtain ⟨h1, h2, h3, h4, h5⟩ := hp
  have hcn : (st.1 0 10).toInt = np := by rw [h1, nI_toInt (by omega)]
  have e10 : (10 : Int32).toInt = 10 := rfl
  have e20 : (20 : Int32).toInt = 20 := rfl
  refine M.ofG [some (.ref 0), some (.int x)] (by decide) (Nat.le_of_ble_eq_true rfl) rfl ?_
  intro xp xe xs xm xa xb xme xc xad xA
  have last : ¬ (10 ≤ x.toInt ∧ x.toInt < 10 + (np : Int)) → G xp l xe (rmd (1)) xs xm xa xb xme xc D cy xad xA (YX11_countOfProgram.2.1, YX11_countOfProgram.1.cls, YX11_countOfProgram.2.2.1, YX11_countOfProgram.2.2.2) (Pi (fun (r : Int32) (u : St) => u = st ∧ r.toInt = if 10 ≤ x.toInt ∧ x.toInt < 10 + (np : Int) then (st.1 (95 + 5 * (x.toInt-10).toNat) 4).toInt else if 20 ≤ x.toInt ∧ x.toInt < 20 + (np : Int) then (st.1 (95 + 5 * (x.toInt-20).toNat) 6).toInt else -1)) 30 ([some (.ref 0), some (.int x)]) ([]) (st) := by
    intro hn
    refine g_ild1 eX11_countOfProgram_30 ?_
    refine g_bipush (v := 20) (by decide) eX11_countOfProgram_31 ?_
    refine g_icmp_lt eX11_countOfProgram_33 (fun hb => ?_) (fun hb => ?_)
    · simp only [fa_lt, Int32.reduceToInt] at hb
      refine g_iconst (v := (-1)) (by decide) eX11_countOfProgram_60 ?_
      refine g_iret rfl eX11_countOfProgram_61 ⟨_, rfl, ?_⟩
      try dsimp only
      rw [if_neg hn, if_neg (by omega)]
      exact ⟨rfl, rfl⟩
    · simp only [fa_lt, Int32.reduceToInt] at hb
      have es : (x - 20).toInt = x.toInt - 20 := by
        have hr := fb_rng x
        rw [fb_subI] <;> rw [e20] <;> omega
      refine g_ald0 eX11_countOfProgram_36 ?_
      refine g_ild1 eX11_countOfProgram_37 ?_
      refine g_bipush (v := 20) (by decide) eX11_countOfProgram_38 ?_
      refine g_isub eX11_countOfProgram_40 ?_
      refine g_callVi (ci := 10) (m_isProgram _ _) (by first | rfl | exact kd_key hi | exact kd_sh hi | exact kd_ya hi | exact kd_pr hq | exact kd_pk hq | exact kd_pf hq | exact kd_ps hq | exact kd_po hq | exact kd_pr hq2 | exact kd_pk hq2 | exact kd_pf hq2 | exact kd_ps hq2 | exact kd_po hq2) (by first | decide | (unfold N0; omega)) (Nat.le_of_ble_eq_true rfl) rfl cv_X11_206 eX11_countOfProgram_41 ⟨Nat.le_of_ble_eq_true rfl, Nat.le_of_ble_eq_true rfl⟩ rfl rfl (Nat.le_of_ble_eq_true rfl) (fun r st h => ?_)
      obtain ⟨rfl, rfl⟩ := h
      rw [hcn, es]
      refine g_if_eq eX11_countOfProgram_44 (fun hb2 => ?_) (fun hb2 => ?_)
      · rw [b2_eq0] at hb2
        refine g_iconst (v := (-1)) (by decide) eX11_countOfProgram_60 ?_
        refine g_iret rfl eX11_countOfProgram_61 ⟨_, rfl, ?_⟩
        try dsimp only
        rw [if_neg hn, if_neg (by omega)]
        exact ⟨rfl, rfl⟩
      · rw [b2_ne0] at hb2
        obtain ⟨q, hq9, ex⟩ := as_nI (x := x - 20) (n := np) (by rw [es]; exact hb2)
        have hq : q < 4 := by omega
        have eq : (x.toInt - 20).toNat = q := by rw [← es, ex, nI_toInt (by omega)]; rfl
        refine g_ald0 eX11_countOfProgram_47 ?_
        refine g_getR (ci := 10) (j := 9) (by first | rfl | exact kd_key hi | exact kd_sh hi | exact kd_ya hi | exact kd_pr hq | exact kd_pk hq | exact kd_pf hq | exact kd_ps hq | exact kd_po hq | exact kd_pr hq2 | exact kd_pk hq2 | exact kd_pf hq2 | exact kd_ps hq2 | exact kd_po hq2) (by first | decide | (unfold N0; omega)) (Nat.le_of_ble_eq_true rfl) (Nat.le_of_ble_eq_true rfl) rfl (by first | rfl | exact r_key4 hi | exact r_sh0 hi | exact r_p0 hq | exact r_p1 hq | exact r_p2 hq | exact r_p3 hq | exact r_p0 hq2 | exact r_p1 hq2 | exact r_p2 hq2 | exact r_p3 hq2) fl_X11_45 eX11_countOfProgram_48 ?_
        refine g_ild1 eX11_countOfProgram_51 ?_
        refine g_bipush (v := 20) (by decide) eX11_countOfProgram_52 ?_
        refine g_isub eX11_countOfProgram_54 ?_
        rw [ex]
        refine g_aald (by decide) (Nat.le_of_ble_eq_true rfl) (progIx hq).1 (progIx hq).2 eX11_countOfProgram_55 ?_
        refine g_getI (ci := 6) (j := 6) (by first | rfl | exact kd_key hi | exact kd_sh hi | exact kd_ya hi | exact kd_pr hq | exact kd_pk hq | exact kd_pf hq | exact kd_ps hq | exact kd_po hq | exact kd_pr hq2 | exact kd_pk hq2 | exact kd_pf hq2 | exact kd_ps hq2 | exact kd_po hq2) (by first | decide | (unfold N0; omega)) (Nat.le_of_ble_eq_true rfl) (Nat.le_of_ble_eq_true rfl) rfl fl_X11_251 eX11_countOfProgram_56 ?_
        refine g_iret rfl eX11_countOfProgram_59 ⟨_, rfl, ?_⟩
        try dsimp only
        rw [if_neg hn, if_pos (by omega), eq]
        exact ⟨rfl, rfl⟩
  refine g_ild1 eX11_countOfProgram_0 ?_
  refine g_bipush (v := 10) (by decide) eX11_countOfProgram_1 ?_
  refine g_icmp_lt eX11_countOfProgram_3 (fun hb => ?_) (fun hb => ?_)
  · simp only [fa_lt, Int32.reduceToInt] at hb
    exact last (by omega)
  · simp only [fa_lt, Int32.reduceToInt] at hb
    have es : (x - 10).toInt = x.toInt - 10 := by
      have hr := fb_rng x
      rw [fb_subI] <;> rw [e10] <;> omega
    refine g_ald0 eX11_countOfProgram_6 ?_
    refine g_ild1 eX11_countOfProgram_7 ?_
    refine g_bipush (v := 10) (by decide) eX11_countOfProgram_8 ?_
    refine g_isub eX11_countOfProgram_10 ?_
    refine g_callVi (ci := 10) (m_isProgram _ _) (by first | rfl | exact kd_key hi | exact kd_sh hi | exact kd_ya hi | exact kd_pr hq | exact kd_pk hq | exact kd_pf hq | exact kd_ps hq | exact kd_po hq | exact kd_pr hq2 | exact kd_pk hq2 | exact kd_pf hq2 | exact kd_ps hq2 | exact kd_po hq2) (by first | decide | (unfold N0; omega)) (Nat.le_of_ble_eq_true rfl) rfl cv_X11_206 eX11_countOfProgram_11 ⟨Nat.le_of_ble_eq_true rfl, Nat.le_of_ble_eq_true rfl⟩ rfl rfl (Nat.le_of_ble_eq_true rfl) (fun r st h => ?_)
    obtain ⟨rfl, rfl⟩ := h
    rw [hcn, es]
    refine g_if_eq eX11_countOfProgram_14 (fun hb2 => ?_) (fun hb2 => ?_)
    · rw [b2_eq0] at hb2
      exact last (by omega)
    · rw [b2_ne0] at hb2
      obtain ⟨q, hq9, ex⟩ := as_nI (x := x - 10) (n := np) (by rw [es]; exact hb2)
      have hq : q < 4 := by omega
      have eq : (x.toInt - 10).toNat = q := by rw [← es, ex, nI_toInt (by omega)]; rfl
      refine g_ald0 eX11_countOfProgram_17 ?_
      refine g_getR (ci := 10) (j := 9) (by first | rfl | exact kd_key hi | exact kd_sh hi | exact kd_ya hi | exact kd_pr hq | exact kd_pk hq | exact kd_pf hq | exact kd_ps hq | exact kd_po hq | exact kd_pr hq2 | exact kd_pk hq2 | exact kd_pf hq2 | exact kd_ps hq2 | exact kd_po hq2) (by first | decide | (unfold N0; omega)) (Nat.le_of_ble_eq_true rfl) (Nat.le_of_ble_eq_true rfl) rfl (by first | rfl | exact r_key4 hi | exact r_sh0 hi | exact r_p0 hq | exact r_p1 hq | exact r_p2 hq | exact r_p3 hq | exact r_p0 hq2 | exact r_p1 hq2 | exact r_p2 hq2 | exact r_p3 hq2) fl_X11_45 eX11_countOfProgram_18 ?_
      refine g_ild1 eX11_countOfProgram_21 ?_
      refine g_bipush (v := 10) (by decide) eX11_countOfProgram_22 ?_
      refine g_isub eX11_countOfProgram_24 ?_
      rw [ex]
      refine g_aald (by decide) (Nat.le_of_ble_eq_true rfl) (progIx hq).1 (progIx hq).2 eX11_countOfProgram_25 ?_
      refine g_getI (ci := 6) (j := 4) (by first | rfl | exact kd_key hi | exact kd_sh hi | exact kd_ya hi | exact kd_pr hq | exact kd_pk hq | exact kd_pf hq | exact kd_ps hq | exact kd_po hq | exact kd_pr hq2 | exact kd_pk hq2 | exact kd_pf hq2 | exact kd_ps hq2 | exact kd_po hq2) (by first | decide | (unfold N0; omega)) (Nat.le_of_ble_eq_true rfl) (Nat.le_of_ble_eq_true rfl) rfl fl_X11_245 eX11_countOfProgram_26 ?_
      refine g_iret rfl eX11_countOfProgram_29 ⟨_, rfl, ?_⟩
      try dsimp only
      rw [if_pos (by omega), eq]
      exact ⟨rfl, rfl⟩
/-- what count tells of the programs -/
def cntF (st : St) (np : Nat) (x : Int) : Int := if 10 ≤ x ∧ x < 10 + (np : Int) then (st.1 (95 + 5 * (x-10).toNat) 4).toInt else if 20 ≤ x ∧ x < 20 + (np : Int) then (st.1 (95 + 5 * (x-20).toNat) 6).toInt else -1
theorem m_count (st : St) {np : Nat} (hp : pOK st np) (x : Int32) : Mi l D cy 2 YX11_count [.ref 0, .int x] st (fun r u => u = st ∧ r.toInt = if x.toInt = 0 then (st.1 0 7).toInt else if x.toInt = 1 then (st.1 17 4).toInt else if x.toInt = 2 then (st.1 0 10).toInt else if x.toInt = 3 then (st.1 1 1).toInt else if x.toInt = 4 then (st.1 0 15).toInt else if x.toInt = 5 then (st.1 0 0).toInt else cntF st np x.toInt) := by
  refine M.ofG [some (.ref 0), some (.int x)] (by decide) (Nat.le_of_ble_eq_true rfl) rfl ?_
  intro xp xe xs xm xa xb xme xc xad xA
  refine g_ild1 eX11_count_0 ?_
  have hx : (x.toInt < 0 ∨ 5 < x.toInt) ∨ x.toInt = 0 ∨ x.toInt = 1 ∨ x.toInt = 2 ∨ x.toInt = 3 ∨ x.toInt = 4 ∨ x.toInt = 5 := by omega
  rcases hx with hx | hx | hx | hx | hx | hx | hx
  · refine g_tableOut (tgt := 76) eX11_count_1 (hx) (by decide) ?_
    refine g_ald0 eX11_count_76 ?_
    refine g_ild1 eX11_count_77 ?_
    refine g_callVi (ci := 10) (m_countOfProgram _ hp x) rfl (Nat.le_of_ble_eq_true rfl) (Nat.le_of_ble_eq_true rfl) rfl cv_X11_345 eX11_count_78 ⟨Nat.le_of_ble_eq_true rfl, Nat.le_of_ble_eq_true rfl⟩ rfl rfl (Nat.le_of_ble_eq_true rfl) (fun r st h => ?_)
    obtain ⟨rfl, h⟩ := h
    refine g_iret rfl eX11_count_81 ⟨_, rfl, ?_⟩
    try dsimp only
    rw [if_neg (by omega), if_neg (by omega), if_neg (by omega), if_neg (by omega), if_neg (by omega), if_neg (by omega)]
    exact ⟨rfl, h⟩
  · refine g_tableIn (off := 39) (tgt := 40) eX11_count_1 (by omega) (by omega) (by rw [hx]; rfl) (by decide) ?_
    refine g_ald0 eX11_count_40 ?_
    refine g_getI (ci := 10) (j := 7) rfl (Nat.le_of_ble_eq_true rfl) (Nat.le_of_ble_eq_true rfl) (Nat.le_of_ble_eq_true rfl) rfl fl_X11_33 eX11_count_41 ?_
    refine g_iret rfl eX11_count_44 ⟨_, rfl, ?_⟩
    try dsimp only
    rw [if_pos hx]
    exact ⟨rfl, rfl⟩
  · refine g_tableIn (off := 44) (tgt := 45) eX11_count_1 (by omega) (by omega) (by rw [hx]; rfl) (by decide) ?_
    refine g_ald0 eX11_count_45 ?_
    refine g_getR (ci := 10) (j := 8) rfl (Nat.le_of_ble_eq_true rfl) (Nat.le_of_ble_eq_true rfl) (Nat.le_of_ble_eq_true rfl) rfl rfl fl_X11_39 eX11_count_46 ?_
    refine g_getI (ci := 7) (j := 4) rfl (Nat.le_of_ble_eq_true rfl) (Nat.le_of_ble_eq_true rfl) (Nat.le_of_ble_eq_true rfl) rfl fl_X11_264 eX11_count_49 ?_
    refine g_iret rfl eX11_count_52 ⟨_, rfl, ?_⟩
    try dsimp only
    rw [if_neg (by omega), if_pos hx]
    exact ⟨rfl, rfl⟩
  · refine g_tableIn (off := 52) (tgt := 53) eX11_count_1 (by omega) (by omega) (by rw [hx]; rfl) (by decide) ?_
    refine g_ald0 eX11_count_53 ?_
    refine g_getI (ci := 10) (j := 10) rfl (Nat.le_of_ble_eq_true rfl) (Nat.le_of_ble_eq_true rfl) (Nat.le_of_ble_eq_true rfl) rfl fl_X11_49 eX11_count_54 ?_
    refine g_iret rfl eX11_count_57 ⟨_, rfl, ?_⟩
    try dsimp only
    rw [if_neg (by omega), if_neg (by omega), if_pos hx]
    exact ⟨rfl, rfl⟩
  · refine g_tableIn (off := 57) (tgt := 58) eX11_count_1 (by omega) (by omega) (by rw [hx]; rfl) (by decide) ?_
    refine g_ald0 eX11_count_58 ?_
    refine g_getR (ci := 10) (j := 1) rfl (Nat.le_of_ble_eq_true rfl) (Nat.le_of_ble_eq_true rfl) (Nat.le_of_ble_eq_true rfl) rfl rfl fl_X11_10 eX11_count_59 ?_
    refine g_getI (ci := 8) (j := 1) rfl (Nat.le_of_ble_eq_true rfl) (Nat.le_of_ble_eq_true rfl) (Nat.le_of_ble_eq_true rfl) rfl fl_X11_100 eX11_count_62 ?_
    refine g_iret rfl eX11_count_65 ⟨_, rfl, ?_⟩
    try dsimp only
    rw [if_neg (by omega), if_neg (by omega), if_neg (by omega), if_pos hx]
    exact ⟨rfl, rfl⟩
  · refine g_tableIn (off := 65) (tgt := 66) eX11_count_1 (by omega) (by omega) (by rw [hx]; rfl) (by decide) ?_
    refine g_ald0 eX11_count_66 ?_
    refine g_getI (ci := 10) (j := 15) rfl (Nat.le_of_ble_eq_true rfl) (Nat.le_of_ble_eq_true rfl) (Nat.le_of_ble_eq_true rfl) rfl fl_X11_62 eX11_count_67 ?_
    refine g_iret rfl eX11_count_70 ⟨_, rfl, ?_⟩
    try dsimp only
    rw [if_neg (by omega), if_neg (by omega), if_neg (by omega), if_neg (by omega), if_pos hx]
    exact ⟨rfl, rfl⟩
  · refine g_tableIn (off := 70) (tgt := 71) eX11_count_1 (by omega) (by omega) (by rw [hx]; rfl) (by decide) ?_
    refine g_ald0 eX11_count_71 ?_
    refine g_getI (ci := 10) (j := 0) rfl (Nat.le_of_ble_eq_true rfl) (Nat.le_of_ble_eq_true rfl) (Nat.le_of_ble_eq_true rfl) rfl fl_X11_65 eX11_count_72 ?_
    refine g_iret rfl eX11_count_75 ⟨_, rfl, ?_⟩
    try dsimp only
    rw [if_neg (by omega), if_neg (by omega), if_neg (by omega), if_neg (by omega), if_neg (by omega), if_pos hx]
    exact ⟨rfl, rfl⟩
def bytI5 (a b c d e : Int32) (j : Nat) : Int32 := bytI (if j < 4 then a else if j < 8 then b else if j < 12 then c else if j < 16 then d else e) (j % 4)
end CLSE
