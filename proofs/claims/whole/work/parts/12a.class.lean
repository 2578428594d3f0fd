/-! SealedSums: keys and sealed ones -/
section CLSA
variable {l : Launch} {D : va_G} {cy : Nat → ClassId}
theorem keyIx {i : Nat} (hi : i < 4) : vp_in (nI i) (ln 16) ∧ r0 16 (nI i).toNatClampNeg = some (83 + 3 * i) := ⟨vp_in_nI (N := 4) hi (by decide), by rw [nI_clamp (by omega)]; exact r_keys hi⟩
theorem progIx {q : Nat} (hq : q < 4) : vp_in (nI q) (ln 22) ∧ r0 22 (nI q).toNatClampNeg = some (95 + 5 * q) := ⟨vp_in_nI (N := 4) hq (by decide), by rw [nI_clamp (by omega)]; exact r_progs hq⟩
theorem as_nI {x : Int32} {n : Nat} (h : 0 ≤ x.toInt ∧ x.toInt < (n : Int)) : ∃ i, i < n ∧ x = nI i := by
  have hr := fb_rng x
  refine ⟨x.toInt.toNat, by omega, ?_⟩
  rw [fa_eq, nI_toInt (by omega)]
  omega
theorem m_isPlain (st : St) (x : Int32) : Mi l D cy 0 YX11_isPlain [.ref 0, .int x] st (fun r u => u = st ∧ r = b2 (0 ≤ x.toInt ∧ x.toInt < (st.1 0 0).toInt)) := by
  refine M.ofG [some (.ref 0), some (.int x)] (by decide) (Nat.le_of_ble_eq_true rfl) rfl ?_
  intro xp xe xs xm xa xb xme xc xad xA
  refine g_ild1 eX11_isPlain_0 ?_
  refine g_if_lt eX11_isPlain_1 (fun hb1 => ?_) (fun hb1 => ?_)
  · try simp only [fa_lt, fa_le, fa_eq, Int32.reduceToInt] at hb1
    refine g_iconst (v := 0) (by decide) eX11_isPlain_16 ?_
    refine g_zret (ty := .boolean) rfl (by first | rfl | assumption) eX11_isPlain_17 ⟨_, rfl, ?_⟩
    try dsimp only
    first | exact ⟨rfl, b2_t (by omega)⟩ | exact ⟨rfl, b2_f (by omega)⟩
  · try simp only [fa_lt, fa_le, fa_eq, Int32.reduceToInt] at hb1
    refine g_ild1 eX11_isPlain_4 ?_
    refine g_ald0 eX11_isPlain_5 ?_
    refine g_getI (ci := 10) (j := 0) rfl (Nat.le_of_ble_eq_true rfl) (Nat.le_of_ble_eq_true rfl) (Nat.le_of_ble_eq_true rfl) rfl fl_X11_65 eX11_isPlain_6 ?_
    refine g_icmp_ge eX11_isPlain_9 (fun hb9 => ?_) (fun hb9 => ?_)
    · try simp only [fa_lt, fa_le, fa_eq, Int32.reduceToInt] at hb9
      refine g_iconst (v := 0) (by decide) eX11_isPlain_16 ?_
      refine g_zret (ty := .boolean) rfl (by first | rfl | assumption) eX11_isPlain_17 ⟨_, rfl, ?_⟩
      try dsimp only
      first | exact ⟨rfl, b2_t (by omega)⟩ | exact ⟨rfl, b2_f (by omega)⟩
    · try simp only [fa_lt, fa_le, fa_eq, Int32.reduceToInt] at hb9
      refine g_iconst (v := 1) (by decide) eX11_isPlain_12 ?_
      refine g_goto eX11_isPlain_13 ?_
      refine g_zret (ty := .boolean) rfl (by first | rfl | assumption) eX11_isPlain_17 ⟨_, rfl, ?_⟩
      try dsimp only
      first | exact ⟨rfl, b2_t (by omega)⟩ | exact ⟨rfl, b2_f (by omega)⟩
theorem m_isKey (st : St) (x : Int32) : Mi l D cy 0 YX11_isKey [.ref 0, .int x] st (fun r u => u = st ∧ r = b2 (0 ≤ x.toInt ∧ x.toInt < (st.1 0 7).toInt)) := by
  refine M.ofG [some (.ref 0), some (.int x)] (by decide) (Nat.le_of_ble_eq_true rfl) rfl ?_
  intro xp xe xs xm xa xb xme xc xad xA
  refine g_ild1 eX11_isKey_0 ?_
  refine g_if_lt eX11_isKey_1 (fun hb1 => ?_) (fun hb1 => ?_)
  · try simp only [fa_lt, fa_le, fa_eq, Int32.reduceToInt] at hb1
    refine g_iconst (v := 0) (by decide) eX11_isKey_16 ?_
    refine g_zret (ty := .boolean) rfl (by first | rfl | assumption) eX11_isKey_17 ⟨_, rfl, ?_⟩
    try dsimp only
    first | exact ⟨rfl, b2_t (by omega)⟩ | exact ⟨rfl, b2_f (by omega)⟩
  · try simp only [fa_lt, fa_le, fa_eq, Int32.reduceToInt] at hb1
    refine g_ild1 eX11_isKey_4 ?_
    refine g_ald0 eX11_isKey_5 ?_
    refine g_getI (ci := 10) (j := 7) rfl (Nat.le_of_ble_eq_true rfl) (Nat.le_of_ble_eq_true rfl) (Nat.le_of_ble_eq_true rfl) rfl fl_X11_33 eX11_isKey_6 ?_
    refine g_icmp_ge eX11_isKey_9 (fun hb9 => ?_) (fun hb9 => ?_)
    · try simp only [fa_lt, fa_le, fa_eq, Int32.reduceToInt] at hb9
      refine g_iconst (v := 0) (by decide) eX11_isKey_16 ?_
      refine g_zret (ty := .boolean) rfl (by first | rfl | assumption) eX11_isKey_17 ⟨_, rfl, ?_⟩
      try dsimp only
      first | exact ⟨rfl, b2_t (by omega)⟩ | exact ⟨rfl, b2_f (by omega)⟩
    · try simp only [fa_lt, fa_le, fa_eq, Int32.reduceToInt] at hb9
      refine g_iconst (v := 1) (by decide) eX11_isKey_12 ?_
      refine g_goto eX11_isKey_13 ?_
      refine g_zret (ty := .boolean) rfl (by first | rfl | assumption) eX11_isKey_17 ⟨_, rfl, ?_⟩
      try dsimp only
      first | exact ⟨rfl, b2_t (by omega)⟩ | exact ⟨rfl, b2_f (by omega)⟩
theorem m_isSealed (st : St) (x : Int32) : Mi l D cy 0 YX11_isSealed [.ref 0, .int x] st (fun r u => u = st ∧ r = b2 (0 ≤ x.toInt ∧ x.toInt < (st.1 17 4).toInt)) := by
  refine M.ofG [some (.ref 0), some (.int x)] (by decide) (Nat.le_of_ble_eq_true rfl) rfl ?_
  intro xp xe xs xm xa xb xme xc xad xA
  refine g_ild1 eX11_isSealed_0 ?_
  refine g_if_lt eX11_isSealed_1 (fun hb1 => ?_) (fun hb1 => ?_)
  · try simp only [fa_lt, fa_le, fa_eq, Int32.reduceToInt] at hb1
    refine g_iconst (v := 0) (by decide) eX11_isSealed_19 ?_
    refine g_zret (ty := .boolean) rfl (by first | rfl | assumption) eX11_isSealed_20 ⟨_, rfl, ?_⟩
    try dsimp only
    first | exact ⟨rfl, b2_t (by omega)⟩ | exact ⟨rfl, b2_f (by omega)⟩
  · try simp only [fa_lt, fa_le, fa_eq, Int32.reduceToInt] at hb1
    refine g_ild1 eX11_isSealed_4 ?_
    refine g_ald0 eX11_isSealed_5 ?_
    refine g_getR (ci := 10) (j := 8) rfl (Nat.le_of_ble_eq_true rfl) (Nat.le_of_ble_eq_true rfl) (Nat.le_of_ble_eq_true rfl) rfl rfl fl_X11_39 eX11_isSealed_6 ?_
    refine g_getI (ci := 7) (j := 4) rfl (Nat.le_of_ble_eq_true rfl) (Nat.le_of_ble_eq_true rfl) (Nat.le_of_ble_eq_true rfl) rfl fl_X11_264 eX11_isSealed_9 ?_
    refine g_icmp_ge eX11_isSealed_12 (fun hb12 => ?_) (fun hb12 => ?_)
    · try simp only [fa_lt, fa_le, fa_eq, Int32.reduceToInt] at hb12
      refine g_iconst (v := 0) (by decide) eX11_isSealed_19 ?_
      refine g_zret (ty := .boolean) rfl (by first | rfl | assumption) eX11_isSealed_20 ⟨_, rfl, ?_⟩
      try dsimp only
      first | exact ⟨rfl, b2_t (by omega)⟩ | exact ⟨rfl, b2_f (by omega)⟩
    · try simp only [fa_lt, fa_le, fa_eq, Int32.reduceToInt] at hb12
      refine g_iconst (v := 1) (by decide) eX11_isSealed_15 ?_
      refine g_goto eX11_isSealed_16 ?_
      refine g_zret (ty := .boolean) rfl (by first | rfl | assumption) eX11_isSealed_20 ⟨_, rfl, ?_⟩
      try dsimp only
      first | exact ⟨rfl, b2_t (by omega)⟩ | exact ⟨rfl, b2_f (by omega)⟩
theorem m_isProgram (st : St) (x : Int32) : Mi l D cy 0 YX11_isProgram [.ref 0, .int x] st (fun r u => u = st ∧ r = b2 (0 ≤ x.toInt ∧ x.toInt < (st.1 0 10).toInt)) := by
  refine M.ofG [some (.ref 0), some (.int x)] (by decide) (Nat.le_of_ble_eq_true rfl) rfl ?_
  intro xp xe xs xm xa xb xme xc xad xA
  refine g_ild1 eX11_isProgram_0 ?_
  refine g_if_lt eX11_isProgram_1 (fun hb1 => ?_) (fun hb1 => ?_)
  · try simp only [fa_lt, fa_le, fa_eq, Int32.reduceToInt] at hb1
    refine g_iconst (v := 0) (by decide) eX11_isProgram_16 ?_
    refine g_zret (ty := .boolean) rfl (by first | rfl | assumption) eX11_isProgram_17 ⟨_, rfl, ?_⟩
    try dsimp only
    first | exact ⟨rfl, b2_t (by omega)⟩ | exact ⟨rfl, b2_f (by omega)⟩
  · try simp only [fa_lt, fa_le, fa_eq, Int32.reduceToInt] at hb1
    refine g_ild1 eX11_isProgram_4 ?_
    refine g_ald0 eX11_isProgram_5 ?_
    refine g_getI (ci := 10) (j := 10) rfl (Nat.le_of_ble_eq_true rfl) (Nat.le_of_ble_eq_true rfl) (Nat.le_of_ble_eq_true rfl) rfl fl_X11_49 eX11_isProgram_6 ?_
    refine g_icmp_ge eX11_isProgram_9 (fun hb9 => ?_) (fun hb9 => ?_)
    · try simp only [fa_lt, fa_le, fa_eq, Int32.reduceToInt] at hb9
      refine g_iconst (v := 0) (by decide) eX11_isProgram_16 ?_
      refine g_zret (ty := .boolean) rfl (by first | rfl | assumption) eX11_isProgram_17 ⟨_, rfl, ?_⟩
      try dsimp only
      first | exact ⟨rfl, b2_t (by omega)⟩ | exact ⟨rfl, b2_f (by omega)⟩
    · try simp only [fa_lt, fa_le, fa_eq, Int32.reduceToInt] at hb9
      refine g_iconst (v := 1) (by decide) eX11_isProgram_12 ?_
      refine g_goto eX11_isProgram_13 ?_
      refine g_zret (ty := .boolean) rfl (by first | rfl | assumption) eX11_isProgram_17 ⟨_, rfl, ?_⟩
      try dsimp only
      first | exact ⟨rfl, b2_t (by omega)⟩ | exact ⟨rfl, b2_f (by omega)⟩
abbrev plainWk (t k x : Int) : Prop := (k = 3 ∧ 0 ≤ x ∧ x < t) ∨ (k = 4 ∧ -t ≤ x ∧ x ≤ t)
theorem m_isPlainWork (st : St) (k x : Int32) (ht : tOK (st.1 0 0)) : Mi l D cy 1 YX11_isPlainWork [.ref 0, .int k, .int x] st (fun r u => u = st ∧ r = b2 (plainWk (st.1 0 0).toInt k.toInt x.toInt)) := by
  have hn : (-(st.1 0 0)).toInt = -(st.1 0 0).toInt := fb_negI (by omega)
  refine M.ofG [some (.ref 0), some (.int k), some (.int x)] (by decide) (Nat.le_of_ble_eq_true rfl) rfl ?_
  intro xp xe xs xm xa xb xme xc xad xA
  refine g_ild1 eX11_isPlainWork_0 ?_
  refine g_iconst (v := 3) (by decide) eX11_isPlainWork_1 ?_
  refine g_icmp_ne eX11_isPlainWork_2 (fun hb => ?_) (fun hb => ?_)
  · simp only [fa_eq, Int32.reduceToInt] at hb
    refine g_ild1 eX11_isPlainWork_13 ?_
    refine g_iconst (v := 4) (by decide) eX11_isPlainWork_14 ?_
    refine g_icmp_ne eX11_isPlainWork_15 (fun hb15 => ?_) (fun hb15 => ?_)
    · try simp only [fa_lt, fa_le, fa_eq, Int32.reduceToInt] at hb15
      refine g_iconst (v := 0) (by decide) eX11_isPlainWork_39 ?_
      refine g_zret (ty := .boolean) rfl (by first | rfl | assumption) eX11_isPlainWork_40 ⟨_, rfl, ?_⟩
      try dsimp only
      first | exact ⟨rfl, b2_t (by omega)⟩ | exact ⟨rfl, b2_f (by omega)⟩
    · try simp only [fa_lt, fa_le, fa_eq, Int32.reduceToInt] at hb15
      refine g_ild2 eX11_isPlainWork_18 ?_
      refine g_ald0 eX11_isPlainWork_19 ?_
      refine g_getI (ci := 10) (j := 0) rfl (Nat.le_of_ble_eq_true rfl) (Nat.le_of_ble_eq_true rfl) (Nat.le_of_ble_eq_true rfl) rfl fl_X11_65 eX11_isPlainWork_20 ?_
      refine g_ineg eX11_isPlainWork_23 ?_
      refine g_icmp_lt eX11_isPlainWork_24 (fun hb24 => ?_) (fun hb24 => ?_)
      · try simp only [fa_lt, fa_le, fa_eq, Int32.reduceToInt] at hb24
        refine g_iconst (v := 0) (by decide) eX11_isPlainWork_39 ?_
        refine g_zret (ty := .boolean) rfl (by first | rfl | assumption) eX11_isPlainWork_40 ⟨_, rfl, ?_⟩
        try dsimp only
        first | exact ⟨rfl, b2_t (by omega)⟩ | exact ⟨rfl, b2_f (by omega)⟩
      · try simp only [fa_lt, fa_le, fa_eq, Int32.reduceToInt] at hb24
        refine g_ild2 eX11_isPlainWork_27 ?_
        refine g_ald0 eX11_isPlainWork_28 ?_
        refine g_getI (ci := 10) (j := 0) rfl (Nat.le_of_ble_eq_true rfl) (Nat.le_of_ble_eq_true rfl) (Nat.le_of_ble_eq_true rfl) rfl fl_X11_65 eX11_isPlainWork_29 ?_
        refine g_icmp_gt eX11_isPlainWork_32 (fun hb32 => ?_) (fun hb32 => ?_)
        · try simp only [fa_lt, fa_le, fa_eq, Int32.reduceToInt] at hb32
          refine g_iconst (v := 0) (by decide) eX11_isPlainWork_39 ?_
          refine g_zret (ty := .boolean) rfl (by first | rfl | assumption) eX11_isPlainWork_40 ⟨_, rfl, ?_⟩
          try dsimp only
          first | exact ⟨rfl, b2_t (by omega)⟩ | exact ⟨rfl, b2_f (by omega)⟩
        · try simp only [fa_lt, fa_le, fa_eq, Int32.reduceToInt] at hb32
          refine g_iconst (v := 1) (by decide) eX11_isPlainWork_35 ?_
          refine g_goto eX11_isPlainWork_36 ?_
          refine g_zret (ty := .boolean) rfl (by first | rfl | assumption) eX11_isPlainWork_40 ⟨_, rfl, ?_⟩
          try dsimp only
          first | exact ⟨rfl, b2_t (by omega)⟩ | exact ⟨rfl, b2_f (by omega)⟩
  · simp only [fa_eq, Int32.reduceToInt] at hb
    refine g_ald0 eX11_isPlainWork_5 ?_
    refine g_ild2 eX11_isPlainWork_6 ?_
    refine g_callVi (ci := 10) (m_isPlain _ x) rfl (Nat.le_of_ble_eq_true rfl) (Nat.le_of_ble_eq_true rfl) rfl cv_X11_144 eX11_isPlainWork_7 ⟨Nat.le_of_ble_eq_true rfl, Nat.le_of_ble_eq_true rfl⟩ rfl rfl (Nat.le_of_ble_eq_true rfl) (fun r st h => ?_)
    obtain ⟨rfl, rfl⟩ := h
    refine g_goto eX11_isPlainWork_10 ?_
    refine g_zret (ty := .boolean) rfl (by unfold b2; split <;> rfl) eX11_isPlainWork_40 ⟨_, rfl, rfl, ?_⟩
    unfold b2
    by_cases h : 0 ≤ x.toInt ∧ x.toInt < (st.1 0 0).toInt
    · rw [if_pos h, if_pos (Or.inl ⟨hb, h⟩)]
    · rw [if_neg h, if_neg (by omega)]
/-- alive by the class -/
abbrev alvX (st : St) (x : Int) : Prop := (0 ≤ x ∧ x < (st.1 0 7).toInt) ∧ ¬ st.1 (83 + 3 * x.toNat) 3 = 0
theorem m_isAlive (st : St) (x : Int32) (hk : (st.1 0 7).toInt ≤ 4) : Mi l D cy 1 YX11_isAlive [.ref 0, .int x] st (fun r u => u = st ∧ r = b2 (alvX st x.toInt)) := by
  refine M.ofG [some (.ref 0), some (.int x)] (by decide) (Nat.le_of_ble_eq_true rfl) rfl ?_
  intro xp xe xs xm xa xb xme xc xad xA
  refine g_ald0 eX11_isAlive_0 ?_
  refine g_ild1 eX11_isAlive_1 ?_
  refine g_callVi (ci := 10) (m_isKey st x) (by first | rfl | exact kd_key hi | exact kd_sh hi | exact kd_ya hi | exact kd_pr hq | exact kd_pk hq | exact kd_pf hq | exact kd_ps hq | exact kd_po hq | exact kd_pr hq2 | exact kd_pk hq2 | exact kd_pf hq2 | exact kd_ps hq2 | exact kd_po hq2) (by first | decide | (unfold N0; omega)) (Nat.le_of_ble_eq_true rfl) rfl cv_X11_234 eX11_isAlive_2 ⟨Nat.le_of_ble_eq_true rfl, Nat.le_of_ble_eq_true rfl⟩ rfl rfl (Nat.le_of_ble_eq_true rfl) (fun r st h => ?_)
  obtain ⟨rfl, rfl⟩ := h
  refine g_if_eq eX11_isAlive_5 (fun hb => ?_) (fun hb => ?_)
  · rw [b2_eq0] at hb
    refine g_iconst (v := 0) (by decide) eX11_isAlive_24 ?_
    exact g_zret (ty := .boolean) rfl (by first | rfl | assumption) eX11_isAlive_25 ⟨_, rfl, ⟨rfl, b2_f (fun h => hb h.1)⟩⟩
  · rw [b2_ne0] at hb
    obtain ⟨i, hi, rfl⟩ := as_nI (x := x) (n := 4) (by omega)
    have ht : (nI i).toInt = i := nI_toInt (by omega)
    refine g_ald0 eX11_isAlive_8 ?_
    refine g_getR (ci := 10) (j := 6) (by first | rfl | exact kd_key hi | exact kd_sh hi | exact kd_ya hi | exact kd_pr hq | exact kd_pk hq | exact kd_pf hq | exact kd_ps hq | exact kd_po hq | exact kd_pr hq2 | exact kd_pk hq2 | exact kd_pf hq2 | exact kd_ps hq2 | exact kd_po hq2) (by first | decide | (unfold N0; omega)) (Nat.le_of_ble_eq_true rfl) (Nat.le_of_ble_eq_true rfl) rfl (by first | rfl | exact r_key4 hi | exact r_sh0 hi | exact r_p0 hq | exact r_p1 hq | exact r_p2 hq | exact r_p3 hq | exact r_p0 hq2 | exact r_p1 hq2 | exact r_p2 hq2 | exact r_p3 hq2) fl_X11_29 eX11_isAlive_9 ?_
    refine g_ild1 eX11_isAlive_12 ?_
    refine g_aald (by decide) (Nat.le_of_ble_eq_true rfl) (keyIx hi).1 (keyIx hi).2 eX11_isAlive_13 ?_
    refine g_getI (ci := 2) (j := 3) (by first | rfl | exact kd_key hi | exact kd_sh hi | exact kd_ya hi | exact kd_pr hq | exact kd_pk hq | exact kd_pf hq | exact kd_ps hq | exact kd_po hq | exact kd_pr hq2 | exact kd_pk hq2 | exact kd_pf hq2 | exact kd_ps hq2 | exact kd_po hq2) (by first | decide | (unfold N0; omega)) (Nat.le_of_ble_eq_true rfl) (Nat.le_of_ble_eq_true rfl) rfl fl_X11_140 eX11_isAlive_14 ?_
    have e : (nI i).toInt.toNat = i := by omega
    refine g_if_eq eX11_isAlive_17 (fun h2 => ?_) (fun h2 => ?_)
    · refine g_iconst (v := 0) (by decide) eX11_isAlive_24 ?_
      exact g_zret (ty := .boolean) rfl (by first | rfl | assumption) eX11_isAlive_25 ⟨_, rfl, ⟨rfl, b2_f (fun h => by have := h.2; rw [e] at this; exact this h2)⟩⟩
    · refine g_iconst (v := 1) (by decide) eX11_isAlive_20 ?_
      refine g_goto eX11_isAlive_21 ?_
      exact g_zret (ty := .boolean) rfl (by first | rfl | assumption) eX11_isAlive_25 ⟨_, rfl, ⟨rfl, b2_t ⟨hb, by rw [e]; exact h2⟩⟩⟩
/-- what the class' rows keep to -/
def xOK (st : St) (nk n : Nat) : Prop := st.1 0 7 = nI nk ∧ nk ≤ 4 ∧ st.1 17 4 = nI n ∧ n ≤ 60 ∧ tOK (st.1 0 0) ∧ (∀ i, i < nk → keyAt st i) ∧ (∀ a, a < n → ∃ i, i < nk ∧ st.1 18 a = nI i) ∧ ∀ a, a < n → 0 ≤ (st.1 20 a).toInt ∧ (st.1 20 a).toInt ≤ 1000000
theorem rowIx {a n : Nat} (h : a < n) (hn : n ≤ 60) : vp_in (nI a) 60 := vp_in_nI (by omega) (by decide)
theorem m_isDrowned (st : St) {nk n : Nat} (hx : xOK st nk n) (a : Nat) (ha : a < n) {i : Nat} (hik : i < nk) (hi9 : st.1 18 a = nI i) : Mi l D cy 1 YX11_isDrowned [.ref 0, .int (nI a)] st (fun r u => u = st ∧ r = b2 ((st.1 (83 + 3 * i) 0).toInt ≤ 2 * (st.1 20 a).toInt)) := by
  obtain ⟨h1, h2, h3, h4, h5, h6, h7, h8⟩ := hx
  have hi : i < 4 := by omega
  have hc : (nI a).toNatClampNeg = a := nI_clamp (by omega)
  refine M.ofG [some (.ref 0), some (.int (nI a))] (by decide) (Nat.le_of_ble_eq_true rfl) rfl ?_
  intro xp xe xs xm xa xb xme xc xad xA
  refine g_ald0 eX11_isDrowned_0 ?_
  refine g_getR (ci := 10) (j := 6) (by first | rfl | exact kd_key hi | exact kd_sh hi | exact kd_ya hi | exact kd_pr hq | exact kd_pk hq | exact kd_pf hq | exact kd_ps hq | exact kd_po hq | exact kd_pr hq2 | exact kd_pk hq2 | exact kd_pf hq2 | exact kd_ps hq2 | exact kd_po hq2) (by first | decide | (unfold N0; omega)) (Nat.le_of_ble_eq_true rfl) (Nat.le_of_ble_eq_true rfl) rfl (by first | rfl | exact r_key4 hi | exact r_sh0 hi | exact r_p0 hq | exact r_p1 hq | exact r_p2 hq | exact r_p3 hq | exact r_p0 hq2 | exact r_p1 hq2 | exact r_p2 hq2 | exact r_p3 hq2) fl_X11_29 eX11_isDrowned_1 ?_
  refine g_ald0 eX11_isDrowned_4 ?_
  refine g_getR (ci := 10) (j := 8) (by first | rfl | exact kd_key hi | exact kd_sh hi | exact kd_ya hi | exact kd_pr hq | exact kd_pk hq | exact kd_pf hq | exact kd_ps hq | exact kd_po hq | exact kd_pr hq2 | exact kd_pk hq2 | exact kd_pf hq2 | exact kd_ps hq2 | exact kd_po hq2) (by first | decide | (unfold N0; omega)) (Nat.le_of_ble_eq_true rfl) (Nat.le_of_ble_eq_true rfl) rfl (by first | rfl | exact r_key4 hi | exact r_sh0 hi | exact r_p0 hq | exact r_p1 hq | exact r_p2 hq | exact r_p3 hq | exact r_p0 hq2 | exact r_p1 hq2 | exact r_p2 hq2 | exact r_p3 hq2) fl_X11_39 eX11_isDrowned_5 ?_
  refine g_getR (ci := 7) (j := 0) (by first | rfl | exact kd_key hi | exact kd_sh hi | exact kd_ya hi | exact kd_pr hq | exact kd_pk hq | exact kd_pf hq | exact kd_ps hq | exact kd_po hq | exact kd_pr hq2 | exact kd_pk hq2 | exact kd_pf hq2 | exact kd_ps hq2 | exact kd_po hq2) (by first | decide | (unfold N0; omega)) (Nat.le_of_ble_eq_true rfl) (Nat.le_of_ble_eq_true rfl) rfl (by first | rfl | exact r_key4 hi | exact r_sh0 hi | exact r_p0 hq | exact r_p1 hq | exact r_p2 hq | exact r_p3 hq | exact r_p0 hq2 | exact r_p1 hq2 | exact r_p2 hq2 | exact r_p3 hq2) fl_X11_154 eX11_isDrowned_8 ?_
  refine g_ild1 eX11_isDrowned_11 ?_
  refine g_iald (by first | rfl | exact kd_key hi | exact kd_sh hi | exact kd_ya hi | exact kd_pr hq | exact kd_pk hq | exact kd_pf hq | exact kd_ps hq | exact kd_po hq | exact kd_pr hq2 | exact kd_pk hq2 | exact kd_pf hq2 | exact kd_ps hq2 | exact kd_po hq2) (by first | decide | (unfold N0; omega)) (rowIx ha h4) eX11_isDrowned_12 ?_
  rw [hc, hi9]
  refine g_aald (by decide) (Nat.le_of_ble_eq_true rfl) (keyIx hi).1 (keyIx hi).2 eX11_isDrowned_13 ?_
  refine g_ald0 eX11_isDrowned_14 ?_
  refine g_getR (ci := 10) (j := 8) (by first | rfl | exact kd_key hi | exact kd_sh hi | exact kd_ya hi | exact kd_pr hq | exact kd_pk hq | exact kd_pf hq | exact kd_ps hq | exact kd_po hq | exact kd_pr hq2 | exact kd_pk hq2 | exact kd_pf hq2 | exact kd_ps hq2 | exact kd_po hq2) (by first | decide | (unfold N0; omega)) (Nat.le_of_ble_eq_true rfl) (Nat.le_of_ble_eq_true rfl) rfl (by first | rfl | exact r_key4 hi | exact r_sh0 hi | exact r_p0 hq | exact r_p1 hq | exact r_p2 hq | exact r_p3 hq | exact r_p0 hq2 | exact r_p1 hq2 | exact r_p2 hq2 | exact r_p3 hq2) fl_X11_39 eX11_isDrowned_15 ?_
  refine g_getR (ci := 7) (j := 2) (by first | rfl | exact kd_key hi | exact kd_sh hi | exact kd_ya hi | exact kd_pr hq | exact kd_pk hq | exact kd_pf hq | exact kd_ps hq | exact kd_po hq | exact kd_pr hq2 | exact kd_pk hq2 | exact kd_pf hq2 | exact kd_ps hq2 | exact kd_po hq2) (by first | decide | (unfold N0; omega)) (Nat.le_of_ble_eq_true rfl) (Nat.le_of_ble_eq_true rfl) rfl (by first | rfl | exact r_key4 hi | exact r_sh0 hi | exact r_p0 hq | exact r_p1 hq | exact r_p2 hq | exact r_p3 hq | exact r_p0 hq2 | exact r_p1 hq2 | exact r_p2 hq2 | exact r_p3 hq2) fl_X11_160 eX11_isDrowned_18 ?_
  refine g_ild1 eX11_isDrowned_21 ?_
  refine g_iald (by first | rfl | exact kd_key hi | exact kd_sh hi | exact kd_ya hi | exact kd_pr hq | exact kd_pk hq | exact kd_pf hq | exact kd_ps hq | exact kd_po hq | exact kd_pr hq2 | exact kd_pk hq2 | exact kd_pf hq2 | exact kd_ps hq2 | exact kd_po hq2) (by first | decide | (unfold N0; omega)) (rowIx ha h4) eX11_isDrowned_22 ?_
  rw [hc]
  refine g_callVi (ci := 2) (m_drowns _ hi _ (h8 a ha)) (by first | rfl | exact kd_key hi | exact kd_sh hi | exact kd_ya hi | exact kd_pr hq | exact kd_pk hq | exact kd_pf hq | exact kd_ps hq | exact kd_po hq | exact kd_pr hq2 | exact kd_pk hq2 | exact kd_pf hq2 | exact kd_ps hq2 | exact kd_po hq2) (by first | decide | (unfold N0; omega)) (Nat.le_of_ble_eq_true rfl) rfl cv_X11_348 eX11_isDrowned_23 ⟨Nat.le_of_ble_eq_true rfl, Nat.le_of_ble_eq_true rfl⟩ rfl rfl (Nat.le_of_ble_eq_true rfl) (fun r st h => ?_)
  obtain ⟨rfl, rfl⟩ := h
  refine g_zret (ty := .boolean) rfl (by unfold b2; split <;> rfl) eX11_isDrowned_26 ⟨_, rfl, rfl, rfl⟩
theorem m_opened (st : St) {nk n : Nat} (hx : xOK st nk n) (a : Nat) (ha : a < n) {i : Nat} (hik : i < nk) (hi9 : st.1 18 a = nI i) : Mi l D cy 3 YX11_opened [.ref 0, .int (nI a)] st (fun r u => u = st ∧ r.toInt = noiseF (st.1 19 a).toInt (st.1 (83 + 3 * i) 0).toInt % (st.1 0 0).toInt) := by
  obtain ⟨h1, h2, h3, h4, h5, h6, h7, h8⟩ := hx
  have hi : i < 4 := by omega
  have hc : (nI a).toNatClampNeg = a := nI_clamp (by omega)
  refine M.ofG [some (.ref 0), some (.int (nI a))] (by decide) (Nat.le_of_ble_eq_true rfl) rfl ?_
  intro xp xe xs xm xa xb xme xc xad xA
  refine g_ald0 eX11_opened_0 ?_
  refine g_getR (ci := 10) (j := 6) (by first | rfl | exact kd_key hi | exact kd_sh hi | exact kd_ya hi | exact kd_pr hq | exact kd_pk hq | exact kd_pf hq | exact kd_ps hq | exact kd_po hq | exact kd_pr hq2 | exact kd_pk hq2 | exact kd_pf hq2 | exact kd_ps hq2 | exact kd_po hq2) (by first | decide | (unfold N0; omega)) (Nat.le_of_ble_eq_true rfl) (Nat.le_of_ble_eq_true rfl) rfl (by first | rfl | exact r_key4 hi | exact r_sh0 hi | exact r_p0 hq | exact r_p1 hq | exact r_p2 hq | exact r_p3 hq | exact r_p0 hq2 | exact r_p1 hq2 | exact r_p2 hq2 | exact r_p3 hq2) fl_X11_29 eX11_opened_1 ?_
  refine g_ald0 eX11_opened_4 ?_
  refine g_getR (ci := 10) (j := 8) (by first | rfl | exact kd_key hi | exact kd_sh hi | exact kd_ya hi | exact kd_pr hq | exact kd_pk hq | exact kd_pf hq | exact kd_ps hq | exact kd_po hq | exact kd_pr hq2 | exact kd_pk hq2 | exact kd_pf hq2 | exact kd_ps hq2 | exact kd_po hq2) (by first | decide | (unfold N0; omega)) (Nat.le_of_ble_eq_true rfl) (Nat.le_of_ble_eq_true rfl) rfl (by first | rfl | exact r_key4 hi | exact r_sh0 hi | exact r_p0 hq | exact r_p1 hq | exact r_p2 hq | exact r_p3 hq | exact r_p0 hq2 | exact r_p1 hq2 | exact r_p2 hq2 | exact r_p3 hq2) fl_X11_39 eX11_opened_5 ?_
  refine g_getR (ci := 7) (j := 0) (by first | rfl | exact kd_key hi | exact kd_sh hi | exact kd_ya hi | exact kd_pr hq | exact kd_pk hq | exact kd_pf hq | exact kd_ps hq | exact kd_po hq | exact kd_pr hq2 | exact kd_pk hq2 | exact kd_pf hq2 | exact kd_ps hq2 | exact kd_po hq2) (by first | decide | (unfold N0; omega)) (Nat.le_of_ble_eq_true rfl) (Nat.le_of_ble_eq_true rfl) rfl (by first | rfl | exact r_key4 hi | exact r_sh0 hi | exact r_p0 hq | exact r_p1 hq | exact r_p2 hq | exact r_p3 hq | exact r_p0 hq2 | exact r_p1 hq2 | exact r_p2 hq2 | exact r_p3 hq2) fl_X11_154 eX11_opened_8 ?_
  refine g_ild1 eX11_opened_11 ?_
  refine g_iald (by first | rfl | exact kd_key hi | exact kd_sh hi | exact kd_ya hi | exact kd_pr hq | exact kd_pk hq | exact kd_pf hq | exact kd_ps hq | exact kd_po hq | exact kd_pr hq2 | exact kd_pk hq2 | exact kd_pf hq2 | exact kd_ps hq2 | exact kd_po hq2) (by first | decide | (unfold N0; omega)) (rowIx ha h4) eX11_opened_12 ?_
  rw [hc, hi9]
  refine g_aald (by decide) (Nat.le_of_ble_eq_true rfl) (keyIx hi).1 (keyIx hi).2 eX11_opened_13 ?_
  refine g_ald0 eX11_opened_14 ?_
  refine g_getR (ci := 10) (j := 8) (by first | rfl | exact kd_key hi | exact kd_sh hi | exact kd_ya hi | exact kd_pr hq | exact kd_pk hq | exact kd_pf hq | exact kd_ps hq | exact kd_po hq | exact kd_pr hq2 | exact kd_pk hq2 | exact kd_pf hq2 | exact kd_ps hq2 | exact kd_po hq2) (by first | decide | (unfold N0; omega)) (Nat.le_of_ble_eq_true rfl) (Nat.le_of_ble_eq_true rfl) rfl (by first | rfl | exact r_key4 hi | exact r_sh0 hi | exact r_p0 hq | exact r_p1 hq | exact r_p2 hq | exact r_p3 hq | exact r_p0 hq2 | exact r_p1 hq2 | exact r_p2 hq2 | exact r_p3 hq2) fl_X11_39 eX11_opened_15 ?_
  refine g_getR (ci := 7) (j := 1) (by first | rfl | exact kd_key hi | exact kd_sh hi | exact kd_ya hi | exact kd_pr hq | exact kd_pk hq | exact kd_pf hq | exact kd_ps hq | exact kd_po hq | exact kd_pr hq2 | exact kd_pk hq2 | exact kd_pf hq2 | exact kd_ps hq2 | exact kd_po hq2) (by first | decide | (unfold N0; omega)) (Nat.le_of_ble_eq_true rfl) (Nat.le_of_ble_eq_true rfl) rfl (by first | rfl | exact r_key4 hi | exact r_sh0 hi | exact r_p0 hq | exact r_p1 hq | exact r_p2 hq | exact r_p3 hq | exact r_p0 hq2 | exact r_p1 hq2 | exact r_p2 hq2 | exact r_p3 hq2) fl_X11_157 eX11_opened_18 ?_
  refine g_ild1 eX11_opened_21 ?_
  refine g_iald (by first | rfl | exact kd_key hi | exact kd_sh hi | exact kd_ya hi | exact kd_pr hq | exact kd_pk hq | exact kd_pf hq | exact kd_ps hq | exact kd_po hq | exact kd_pr hq2 | exact kd_pk hq2 | exact kd_pf hq2 | exact kd_ps hq2 | exact kd_po hq2) (by first | decide | (unfold N0; omega)) (rowIx ha h4) eX11_opened_22 ?_
  refine g_ald0 eX11_opened_23 ?_
  refine g_getI (ci := 10) (j := 0) (by first | rfl | exact kd_key hi | exact kd_sh hi | exact kd_ya hi | exact kd_pr hq | exact kd_pk hq | exact kd_pf hq | exact kd_ps hq | exact kd_po hq | exact kd_pr hq2 | exact kd_pk hq2 | exact kd_pf hq2 | exact kd_ps hq2 | exact kd_po hq2) (by first | decide | (unfold N0; omega)) (Nat.le_of_ble_eq_true rfl) (Nat.le_of_ble_eq_true rfl) rfl fl_X11_65 eX11_opened_24 ?_
  rw [hc]
  refine g_callVi (ci := 2) (m_openedOf _ hi (h6 i hik) _ _ h5) (by first | rfl | exact kd_key hi | exact kd_sh hi | exact kd_ya hi | exact kd_pr hq | exact kd_pk hq | exact kd_pf hq | exact kd_ps hq | exact kd_po hq | exact kd_pr hq2 | exact kd_pk hq2 | exact kd_pf hq2 | exact kd_ps hq2 | exact kd_po hq2) (by first | decide | (unfold N0; omega)) (Nat.le_of_ble_eq_true rfl) rfl cv_X11_351 eX11_opened_27 ⟨Nat.le_of_ble_eq_true rfl, Nat.le_of_ble_eq_true rfl⟩ rfl rfl (Nat.le_of_ble_eq_true rfl) (fun r st h => ?_)
  obtain ⟨rfl, h⟩ := h
  exact g_iret rfl eX11_opened_30 ⟨_, rfl, ⟨rfl, h⟩⟩
/-- a row more -/
def addX (st : St) (n : Nat) (k c b d : Int32) : St := sI (sI (sI (sI (sI st 18 n k) 19 n c) 20 n b) 21 n d) 17 4 (nI (n + 1))
theorem m_addFresh (st : St) {nk n : Nat} (hx : xOK st nk n) {i : Nat} (hik : i < nk) (m0 seed d : Int32) (hm : 0 ≤ m0.toInt ∧ m0.toInt < 13) : Mi l D cy 3 YX11_addFresh [.ref 0, .int (nI i), .int m0, .int seed, .int d] st (fun r u => if n = 60 then r = -1 ∧ u = st else r = nI n ∧ ∃ c b : Int32, c.toInt = freshF (st.1 (83 + 3 * i) 0).toInt (st.1 (83 + 3 * i) 1).toInt (st.1 (83 + 3 * i) 2).toInt (st.1 0 0).toInt m0.toInt seed ∧ b.toInt = (st.1 0 0).toInt * (st.1 (83 + 3 * i) 2).toInt + (st.1 0 0).toInt - 1 ∧ u = addX st n (nI i) c b d) := by
  obtain ⟨h1, h2, h3, h4, h5, h6, h7, h8⟩ := hx
  have hi : i < 4 := by omega
  refine M.ofG [some (.ref 0), some (.int (nI i)), some (.int m0), some (.int seed), some (.int d)] (by decide) (Nat.le_of_ble_eq_true rfl) rfl ?_
  intro xp xe xs xm xa xb xme xc xad xA
  refine g_ald0 eX11_addFresh_0 ?_
  refine g_getR (ci := 10) (j := 8) (by first | rfl | exact kd_key hi | exact kd_sh hi | exact kd_ya hi | exact kd_pr hq | exact kd_pk hq | exact kd_pf hq | exact kd_ps hq | exact kd_po hq | exact kd_pr hq2 | exact kd_pk hq2 | exact kd_pf hq2 | exact kd_ps hq2 | exact kd_po hq2) (by first | decide | (unfold N0; omega)) (Nat.le_of_ble_eq_true rfl) (Nat.le_of_ble_eq_true rfl) rfl (by first | rfl | exact r_key4 hi | exact r_sh0 hi | exact r_p0 hq | exact r_p1 hq | exact r_p2 hq | exact r_p3 hq | exact r_p0 hq2 | exact r_p1 hq2 | exact r_p2 hq2 | exact r_p3 hq2) fl_X11_39 eX11_addFresh_1 ?_
  refine g_ild1 eX11_addFresh_4 ?_
  refine g_ald0 eX11_addFresh_5 ?_
  refine g_getR (ci := 10) (j := 6) (by first | rfl | exact kd_key hi | exact kd_sh hi | exact kd_ya hi | exact kd_pr hq | exact kd_pk hq | exact kd_pf hq | exact kd_ps hq | exact kd_po hq | exact kd_pr hq2 | exact kd_pk hq2 | exact kd_pf hq2 | exact kd_ps hq2 | exact kd_po hq2) (by first | decide | (unfold N0; omega)) (Nat.le_of_ble_eq_true rfl) (Nat.le_of_ble_eq_true rfl) rfl (by first | rfl | exact r_key4 hi | exact r_sh0 hi | exact r_p0 hq | exact r_p1 hq | exact r_p2 hq | exact r_p3 hq | exact r_p0 hq2 | exact r_p1 hq2 | exact r_p2 hq2 | exact r_p3 hq2) fl_X11_29 eX11_addFresh_6 ?_
  refine g_ild1 eX11_addFresh_9 ?_
  refine g_aald (by decide) (Nat.le_of_ble_eq_true rfl) (keyIx hi).1 (keyIx hi).2 eX11_addFresh_10 ?_
  refine g_ald0 eX11_addFresh_11 ?_
  refine g_getI (ci := 10) (j := 0) (by first | rfl | exact kd_key hi | exact kd_sh hi | exact kd_ya hi | exact kd_pr hq | exact kd_pk hq | exact kd_pf hq | exact kd_ps hq | exact kd_po hq | exact kd_pr hq2 | exact kd_pk hq2 | exact kd_pf hq2 | exact kd_ps hq2 | exact kd_po hq2) (by first | decide | (unfold N0; omega)) (Nat.le_of_ble_eq_true rfl) (Nat.le_of_ble_eq_true rfl) rfl fl_X11_65 eX11_addFresh_12 ?_
  refine g_ild2 eX11_addFresh_15 ?_
  refine g_ild3 eX11_addFresh_16 ?_
  refine g_callVi (ci := 2) (m_freshC _ hi (h6 i hik) _ m0 seed h5 hm) (by first | rfl | exact kd_key hi | exact kd_sh hi | exact kd_ya hi | exact kd_pr hq | exact kd_pk hq | exact kd_pf hq | exact kd_ps hq | exact kd_po hq | exact kd_pr hq2 | exact kd_pk hq2 | exact kd_pf hq2 | exact kd_ps hq2 | exact kd_po hq2) (by first | decide | (unfold N0; omega)) (Nat.le_of_ble_eq_true rfl) rfl cv_X11_354 eX11_addFresh_17 ⟨Nat.le_of_ble_eq_true rfl, Nat.le_of_ble_eq_true rfl⟩ rfl rfl (Nat.le_of_ble_eq_true rfl) (fun c st hc => ?_)
  obtain ⟨rfl, hc⟩ := hc
  refine g_ald0 eX11_addFresh_20 ?_
  refine g_getR (ci := 10) (j := 6) (by first | rfl | exact kd_key hi | exact kd_sh hi | exact kd_ya hi | exact kd_pr hq | exact kd_pk hq | exact kd_pf hq | exact kd_ps hq | exact kd_po hq | exact kd_pr hq2 | exact kd_pk hq2 | exact kd_pf hq2 | exact kd_ps hq2 | exact kd_po hq2) (by first | decide | (unfold N0; omega)) (Nat.le_of_ble_eq_true rfl) (Nat.le_of_ble_eq_true rfl) rfl (by first | rfl | exact r_key4 hi | exact r_sh0 hi | exact r_p0 hq | exact r_p1 hq | exact r_p2 hq | exact r_p3 hq | exact r_p0 hq2 | exact r_p1 hq2 | exact r_p2 hq2 | exact r_p3 hq2) fl_X11_29 eX11_addFresh_21 ?_
  refine g_ild1 eX11_addFresh_24 ?_
  refine g_aald (by decide) (Nat.le_of_ble_eq_true rfl) (keyIx hi).1 (keyIx hi).2 eX11_addFresh_25 ?_
  refine g_ald0 eX11_addFresh_26 ?_
  refine g_getI (ci := 10) (j := 0) (by first | rfl | exact kd_key hi | exact kd_sh hi | exact kd_ya hi | exact kd_pr hq | exact kd_pk hq | exact kd_pf hq | exact kd_ps hq | exact kd_po hq | exact kd_pr hq2 | exact kd_pk hq2 | exact kd_pf hq2 | exact kd_ps hq2 | exact kd_po hq2) (by first | decide | (unfold N0; omega)) (Nat.le_of_ble_eq_true rfl) (Nat.le_of_ble_eq_true rfl) rfl fl_X11_65 eX11_addFresh_27 ?_
  refine g_callVi (ci := 2) (m_freshBound _ hi (h6 i hik) _ h5) (by first | rfl | exact kd_key hi | exact kd_sh hi | exact kd_ya hi | exact kd_pr hq | exact kd_pk hq | exact kd_pf hq | exact kd_ps hq | exact kd_po hq | exact kd_pr hq2 | exact kd_pk hq2 | exact kd_pf hq2 | exact kd_ps hq2 | exact kd_po hq2) (by first | decide | (unfold N0; omega)) (Nat.le_of_ble_eq_true rfl) rfl cv_X11_357 eX11_addFresh_30 ⟨Nat.le_of_ble_eq_true rfl, Nat.le_of_ble_eq_true rfl⟩ rfl rfl (Nat.le_of_ble_eq_true rfl) (fun b st hb => ?_)
  obtain ⟨rfl, hb⟩ := hb
  refine g_ild4 eX11_addFresh_33 ?_
  refine g_callVi (ci := 7) (m_add _ (nI i) c b d n h3 h4) (by first | rfl | exact kd_key hi | exact kd_sh hi | exact kd_ya hi | exact kd_pr hq | exact kd_pk hq | exact kd_pf hq | exact kd_ps hq | exact kd_po hq | exact kd_pr hq2 | exact kd_pk hq2 | exact kd_pf hq2 | exact kd_ps hq2 | exact kd_po hq2) (by first | decide | (unfold N0; omega)) (Nat.le_of_ble_eq_true rfl) rfl cv_X11_360 eX11_addFresh_35 ⟨Nat.le_of_ble_eq_true rfl, Nat.le_of_ble_eq_true rfl⟩ rfl rfl (Nat.le_of_ble_eq_true rfl) (fun r u h => ?_)
  refine g_iret rfl eX11_addFresh_38 ⟨_, rfl, ?_⟩
  try dsimp only
  split
  · rename_i hn
    rw [if_pos hn] at h
    exact h
  · rename_i hn
    rw [if_neg hn] at h
    exact ⟨h.1, c, b, hc, hb, h.2⟩
theorem m_addWorked (st : St) {nk n : Nat} (hx : xOK st nk n) (k : Int32) (a : Nat) (ha : a < n) {i : Nat} (hik : i < nk) (hi9 : st.1 18 a = nI i) (oc ob : Int32) : Mi l D cy 2 YX11_addWorked [.ref 0, .int k, .int (nI a), .int oc, .int ob] st (fun r u => if n = 60 then r = -1 ∧ u = st else r = nI n ∧ ∃ c b : Int32, c.toInt = workF k.toInt (st.1 19 a).toInt oc.toInt ((st.1 (83 + 3 * i) 0).toInt * (st.1 (83 + 3 * i) 1).toInt) ∧ b.toInt = boundF k.toInt (st.1 20 a).toInt ob.toInt ∧ u = addX st n (nI i) c b k) := by
  obtain ⟨h1, h2, h3, h4, h5, h6, h7, h8⟩ := hx
  have hi : i < 4 := by omega
  have hc9 : (nI a).toNatClampNeg = a := nI_clamp (by omega)
  have hpq := pq_rng (h6 i hik)
  refine M.ofG [some (.ref 0), some (.int k), some (.int (nI a)), some (.int oc), some (.int ob), none, none, none] (by decide) (Nat.le_of_ble_eq_true rfl) rfl ?_
  intro xp xe xs xm xa xb xme xc xad xA
  refine g_ald0 eX11_addWorked_0 ?_
  refine g_getR (ci := 10) (j := 8) (by first | rfl | exact kd_key hi | exact kd_sh hi | exact kd_ya hi | exact kd_pr hq | exact kd_pk hq | exact kd_pf hq | exact kd_ps hq | exact kd_po hq | exact kd_pr hq2 | exact kd_pk hq2 | exact kd_pf hq2 | exact kd_ps hq2 | exact kd_po hq2) (by first | decide | (unfold N0; omega)) (Nat.le_of_ble_eq_true rfl) (Nat.le_of_ble_eq_true rfl) rfl (by first | rfl | exact r_key4 hi | exact r_sh0 hi | exact r_p0 hq | exact r_p1 hq | exact r_p2 hq | exact r_p3 hq | exact r_p0 hq2 | exact r_p1 hq2 | exact r_p2 hq2 | exact r_p3 hq2) fl_X11_39 eX11_addWorked_1 ?_
  refine g_getR (ci := 7) (j := 0) (by first | rfl | exact kd_key hi | exact kd_sh hi | exact kd_ya hi | exact kd_pr hq | exact kd_pk hq | exact kd_pf hq | exact kd_ps hq | exact kd_po hq | exact kd_pr hq2 | exact kd_pk hq2 | exact kd_pf hq2 | exact kd_ps hq2 | exact kd_po hq2) (by first | decide | (unfold N0; omega)) (Nat.le_of_ble_eq_true rfl) (Nat.le_of_ble_eq_true rfl) rfl (by first | rfl | exact r_key4 hi | exact r_sh0 hi | exact r_p0 hq | exact r_p1 hq | exact r_p2 hq | exact r_p3 hq | exact r_p0 hq2 | exact r_p1 hq2 | exact r_p2 hq2 | exact r_p3 hq2) fl_X11_154 eX11_addWorked_4 ?_
  refine g_ild2 eX11_addWorked_7 ?_
  refine g_iald (by first | rfl | exact kd_key hi | exact kd_sh hi | exact kd_ya hi | exact kd_pr hq | exact kd_pk hq | exact kd_pf hq | exact kd_ps hq | exact kd_po hq | exact kd_pr hq2 | exact kd_pk hq2 | exact kd_pf hq2 | exact kd_ps hq2 | exact kd_po hq2) (by first | decide | (unfold N0; omega)) (rowIx ha h4) eX11_addWorked_8 ?_
  rw [hc9, hi9]
  refine g_ist5 rfl (Nat.le_of_ble_eq_true rfl) eX11_addWorked_9 ?_
  refine g_ild1 eX11_addWorked_11 ?_
  refine g_ald0 eX11_addWorked_12 ?_
  refine g_getR (ci := 10) (j := 8) (by first | rfl | exact kd_key hi | exact kd_sh hi | exact kd_ya hi | exact kd_pr hq | exact kd_pk hq | exact kd_pf hq | exact kd_ps hq | exact kd_po hq | exact kd_pr hq2 | exact kd_pk hq2 | exact kd_pf hq2 | exact kd_ps hq2 | exact kd_po hq2) (by first | decide | (unfold N0; omega)) (Nat.le_of_ble_eq_true rfl) (Nat.le_of_ble_eq_true rfl) rfl (by first | rfl | exact r_key4 hi | exact r_sh0 hi | exact r_p0 hq | exact r_p1 hq | exact r_p2 hq | exact r_p3 hq | exact r_p0 hq2 | exact r_p1 hq2 | exact r_p2 hq2 | exact r_p3 hq2) fl_X11_39 eX11_addWorked_13 ?_
  refine g_getR (ci := 7) (j := 1) (by first | rfl | exact kd_key hi | exact kd_sh hi | exact kd_ya hi | exact kd_pr hq | exact kd_pk hq | exact kd_pf hq | exact kd_ps hq | exact kd_po hq | exact kd_pr hq2 | exact kd_pk hq2 | exact kd_pf hq2 | exact kd_ps hq2 | exact kd_po hq2) (by first | decide | (unfold N0; omega)) (Nat.le_of_ble_eq_true rfl) (Nat.le_of_ble_eq_true rfl) rfl (by first | rfl | exact r_key4 hi | exact r_sh0 hi | exact r_p0 hq | exact r_p1 hq | exact r_p2 hq | exact r_p3 hq | exact r_p0 hq2 | exact r_p1 hq2 | exact r_p2 hq2 | exact r_p3 hq2) fl_X11_157 eX11_addWorked_16 ?_
  refine g_ild2 eX11_addWorked_19 ?_
  refine g_iald (by first | rfl | exact kd_key hi | exact kd_sh hi | exact kd_ya hi | exact kd_pr hq | exact kd_pk hq | exact kd_pf hq | exact kd_ps hq | exact kd_po hq | exact kd_pr hq2 | exact kd_pk hq2 | exact kd_pf hq2 | exact kd_ps hq2 | exact kd_po hq2) (by first | decide | (unfold N0; omega)) (rowIx ha h4) eX11_addWorked_20 ?_
  refine g_ild3 eX11_addWorked_21 ?_
  refine g_ald0 eX11_addWorked_22 ?_
  refine g_getR (ci := 10) (j := 6) (by first | rfl | exact kd_key hi | exact kd_sh hi | exact kd_ya hi | exact kd_pr hq | exact kd_pk hq | exact kd_pf hq | exact kd_ps hq | exact kd_po hq | exact kd_pr hq2 | exact kd_pk hq2 | exact kd_pf hq2 | exact kd_ps hq2 | exact kd_po hq2) (by first | decide | (unfold N0; omega)) (Nat.le_of_ble_eq_true rfl) (Nat.le_of_ble_eq_true rfl) rfl (by first | rfl | exact r_key4 hi | exact r_sh0 hi | exact r_p0 hq | exact r_p1 hq | exact r_p2 hq | exact r_p3 hq | exact r_p0 hq2 | exact r_p1 hq2 | exact r_p2 hq2 | exact r_p3 hq2) fl_X11_29 eX11_addWorked_23 ?_
  refine g_ild5 eX11_addWorked_26 ?_
  refine g_aald (by decide) (Nat.le_of_ble_eq_true rfl) (keyIx hi).1 (keyIx hi).2 eX11_addWorked_28 ?_
  rw [hc9]
  refine g_callVi (ci := 2) (m_modulus _ hi (h6 i hik)) (by first | rfl | exact kd_key hi | exact kd_sh hi | exact kd_ya hi | exact kd_pr hq | exact kd_pk hq | exact kd_pf hq | exact kd_ps hq | exact kd_po hq | exact kd_pr hq2 | exact kd_pk hq2 | exact kd_pf hq2 | exact kd_ps hq2 | exact kd_po hq2) (by first | decide | (unfold N0; omega)) (Nat.le_of_ble_eq_true rfl) rfl cv_X11_363 eX11_addWorked_29 ⟨Nat.le_of_ble_eq_true rfl, Nat.le_of_ble_eq_true rfl⟩ rfl rfl (Nat.le_of_ble_eq_true rfl) (fun mo st hmo => ?_)
  obtain ⟨rfl, hmo⟩ := hmo
  refine g_callSi (m_worked _ k _ oc mo (by omega)) cs_X11_366 eX11_addWorked_32 ⟨Nat.le_of_ble_eq_true rfl, Nat.le_of_ble_eq_true rfl⟩ rfl rfl (Nat.le_of_ble_eq_true rfl) (fun c st hc => ?_)
  obtain ⟨rfl, hc⟩ := hc
  refine g_ist6 rfl (Nat.le_of_ble_eq_true rfl) eX11_addWorked_35 ?_
  refine g_ild1 eX11_addWorked_37 ?_
  refine g_ald0 eX11_addWorked_38 ?_
  refine g_getR (ci := 10) (j := 8) (by first | rfl | exact kd_key hi | exact kd_sh hi | exact kd_ya hi | exact kd_pr hq | exact kd_pk hq | exact kd_pf hq | exact kd_ps hq | exact kd_po hq | exact kd_pr hq2 | exact kd_pk hq2 | exact kd_pf hq2 | exact kd_ps hq2 | exact kd_po hq2) (by first | decide | (unfold N0; omega)) (Nat.le_of_ble_eq_true rfl) (Nat.le_of_ble_eq_true rfl) rfl (by first | rfl | exact r_key4 hi | exact r_sh0 hi | exact r_p0 hq | exact r_p1 hq | exact r_p2 hq | exact r_p3 hq | exact r_p0 hq2 | exact r_p1 hq2 | exact r_p2 hq2 | exact r_p3 hq2) fl_X11_39 eX11_addWorked_39 ?_
  refine g_getR (ci := 7) (j := 2) (by first | rfl | exact kd_key hi | exact kd_sh hi | exact kd_ya hi | exact kd_pr hq | exact kd_pk hq | exact kd_pf hq | exact kd_ps hq | exact kd_po hq | exact kd_pr hq2 | exact kd_pk hq2 | exact kd_pf hq2 | exact kd_ps hq2 | exact kd_po hq2) (by first | decide | (unfold N0; omega)) (Nat.le_of_ble_eq_true rfl) (Nat.le_of_ble_eq_true rfl) rfl (by first | rfl | exact r_key4 hi | exact r_sh0 hi | exact r_p0 hq | exact r_p1 hq | exact r_p2 hq | exact r_p3 hq | exact r_p0 hq2 | exact r_p1 hq2 | exact r_p2 hq2 | exact r_p3 hq2) fl_X11_160 eX11_addWorked_42 ?_
  refine g_ild2 eX11_addWorked_45 ?_
  refine g_iald (by first | rfl | exact kd_key hi | exact kd_sh hi | exact kd_ya hi | exact kd_pr hq | exact kd_pk hq | exact kd_pf hq | exact kd_ps hq | exact kd_po hq | exact kd_pr hq2 | exact kd_pk hq2 | exact kd_pf hq2 | exact kd_ps hq2 | exact kd_po hq2) (by first | decide | (unfold N0; omega)) (rowIx ha h4) eX11_addWorked_46 ?_
  refine g_ild4 eX11_addWorked_47 ?_
  rw [hc9]
  refine g_callSi (m_workedBound _ k _ ob (h8 a ha).1) cs_X11_369 eX11_addWorked_49 ⟨Nat.le_of_ble_eq_true rfl, Nat.le_of_ble_eq_true rfl⟩ rfl rfl (Nat.le_of_ble_eq_true rfl) (fun b st hb => ?_)
  obtain ⟨rfl, hb⟩ := hb
  refine g_ist7 rfl (Nat.le_of_ble_eq_true rfl) eX11_addWorked_52 ?_
  refine g_ald0 eX11_addWorked_54 ?_
  refine g_getR (ci := 10) (j := 8) (by first | rfl | exact kd_key hi | exact kd_sh hi | exact kd_ya hi | exact kd_pr hq | exact kd_pk hq | exact kd_pf hq | exact kd_ps hq | exact kd_po hq | exact kd_pr hq2 | exact kd_pk hq2 | exact kd_pf hq2 | exact kd_ps hq2 | exact kd_po hq2) (by first | decide | (unfold N0; omega)) (Nat.le_of_ble_eq_true rfl) (Nat.le_of_ble_eq_true rfl) rfl (by first | rfl | exact r_key4 hi | exact r_sh0 hi | exact r_p0 hq | exact r_p1 hq | exact r_p2 hq | exact r_p3 hq | exact r_p0 hq2 | exact r_p1 hq2 | exact r_p2 hq2 | exact r_p3 hq2) fl_X11_39 eX11_addWorked_55 ?_
  refine g_ild5 eX11_addWorked_58 ?_
  refine g_ild6 eX11_addWorked_60 ?_
  refine g_ild7 eX11_addWorked_62 ?_
  refine g_ild1 eX11_addWorked_64 ?_
  refine g_callVi (ci := 7) (m_add _ (nI i) c b k n h3 h4) (by first | rfl | exact kd_key hi | exact kd_sh hi | exact kd_ya hi | exact kd_pr hq | exact kd_pk hq | exact kd_pf hq | exact kd_ps hq | exact kd_po hq | exact kd_pr hq2 | exact kd_pk hq2 | exact kd_pf hq2 | exact kd_ps hq2 | exact kd_po hq2) (by first | decide | (unfold N0; omega)) (Nat.le_of_ble_eq_true rfl) rfl cv_X11_360 eX11_addWorked_65 ⟨Nat.le_of_ble_eq_true rfl, Nat.le_of_ble_eq_true rfl⟩ rfl rfl (Nat.le_of_ble_eq_true rfl) (fun r u h => ?_)
  refine g_iret rfl eX11_addWorked_68 ⟨_, rfl, ?_⟩
  try dsimp only
  split
  · rename_i hn
    rw [if_pos hn] at h
    exact h
  · rename_i hn
    rw [if_neg hn] at h
    exact ⟨h.1, c, b, by rw [hc, hmo], hb, h.2⟩
theorem m_lot (st : St) (a b n : Int32) : Mi l D cy 2 YX11_lot [.ref 0, .int a, .int b, .int n] st (fun r u => u = st ∧ r.toInt = if 1 ≤ n.toInt ∧ n.toInt ≤ 1000000 then lotF a b n.toInt else -1) := by
  refine M.ofG [some (.ref 0), some (.int a), some (.int b), some (.int n)] (by decide) (Nat.le_of_ble_eq_true rfl) rfl ?_
  intro xp xe xs xm xa xb xme xc xad xA
  refine g_ild3 eX11_lot_0 ?_
  refine g_iconst (v := 1) (by decide) eX11_lot_1 ?_
  refine g_icmp_lt eX11_lot_2 (fun hb2 => ?_) (fun hb2 => ?_)
  · try simp only [fa_lt, fa_le, fa_eq, Int32.reduceToInt] at hb2
    refine g_iconst (v := (-1)) (by decide) eX11_lot_11 ?_
    refine g_goto eX11_lot_12 ?_
    refine g_iret rfl eX11_lot_21 ⟨_, rfl, ?_⟩
    try dsimp only
    first | (refine ⟨rfl, ?_⟩; rw [if_neg (by omega)]; rfl) | (refine ⟨rfl, ?_⟩; rw [if_pos (by omega)]; exact h)
  · try simp only [fa_lt, fa_le, fa_eq, Int32.reduceToInt] at hb2
    refine g_ild3 eX11_lot_5 ?_
    refine g_ldc kc_X11_121 eX11_lot_6 ?_
    refine g_icmp_le eX11_lot_8 (fun hb8 => ?_) (fun hb8 => ?_)
    · try simp only [fa_lt, fa_le, fa_eq, Int32.reduceToInt] at hb8
      refine g_ild1 eX11_lot_15 ?_
      refine g_ild2 eX11_lot_16 ?_
      refine g_ild3 eX11_lot_17 ?_
      refine g_callSi (m_drawn st a b n (by omega)) cs_X11_122 eX11_lot_18 ⟨Nat.le_of_ble_eq_true rfl, Nat.le_of_ble_eq_true rfl⟩ rfl rfl (Nat.le_of_ble_eq_true rfl) (fun r st h => ?_)
      obtain ⟨rfl, h⟩ := h
      refine g_iret rfl eX11_lot_21 ⟨_, rfl, ?_⟩
      try dsimp only
      first | (refine ⟨rfl, ?_⟩; rw [if_neg (by omega)]; rfl) | (refine ⟨rfl, ?_⟩; rw [if_pos (by omega)]; exact h)
    · try simp only [fa_lt, fa_le, fa_eq, Int32.reduceToInt] at hb8
      refine g_iconst (v := (-1)) (by decide) eX11_lot_11 ?_
      refine g_goto eX11_lot_12 ?_
      refine g_iret rfl eX11_lot_21 ⟨_, rfl, ?_⟩
      try dsimp only
      first | (refine ⟨rfl, ?_⟩; rw [if_neg (by omega)]; rfl) | (refine ⟨rfl, ?_⟩; rw [if_pos (by omega)]; exact h)
theorem m_place (st : St) : Mi l D cy 0 YX11_place [.ref 0] st (fun r u => u = st ∧ r = st.1 0 5) := by
  refine M.ofG [some (.ref 0)] (by decide) (Nat.le_of_ble_eq_true rfl) rfl ?_
  intro xp xe xs xm xa xb xme xc xad xA
  refine g_ald0 eX11_place_0 ?_
  refine g_getI (ci := 10) (j := 5) rfl (Nat.le_of_ble_eq_true rfl) (Nat.le_of_ble_eq_true rfl) (Nat.le_of_ble_eq_true rfl) rfl fl_X11_23 eX11_place_1 ?_
  refine g_iret rfl eX11_place_4 ⟨_, rfl, ?_⟩
  try dsimp only
  exact ⟨rfl, rfl⟩
theorem m_budget (st : St) (v : Int32) : Mi l D cy 0 YX11_budget [.ref 0, .int v] st (fun r u => if 0 ≤ v.toInt ∧ v.toInt ≤ 10000 then r = 1 ∧ u = sI st 0 15 v else r = 0 ∧ u = st) := by
  refine M.ofG [some (.ref 0), some (.int v)] (by decide) (Nat.le_of_ble_eq_true rfl) rfl ?_
  intro xp xe xs xm xa xb xme xc xad xA
  refine g_ild1 eX11_budget_0 ?_
  refine g_if_lt eX11_budget_1 (fun hb1 => ?_) (fun hb1 => ?_)
  · try simp only [fa_lt, fa_le, fa_eq, Int32.reduceToInt] at hb1
    refine g_iconst (v := 0) (by decide) eX11_budget_11 ?_
    refine g_zret (ty := .boolean) rfl (by first | rfl | assumption) eX11_budget_12 ⟨_, rfl, ?_⟩
    try dsimp only
    first | (rw [if_pos (by omega)]; exact ⟨rfl, rfl⟩) | (rw [if_neg (by omega)]; exact ⟨rfl, rfl⟩)
  · try simp only [fa_lt, fa_le, fa_eq, Int32.reduceToInt] at hb1
    refine g_ild1 eX11_budget_4 ?_
    refine g_sipush (v := 10000) (by decide) eX11_budget_5 ?_
    refine g_icmp_le eX11_budget_8 (fun hb8 => ?_) (fun hb8 => ?_)
    · try simp only [fa_lt, fa_le, fa_eq, Int32.reduceToInt] at hb8
      refine g_ald0 eX11_budget_13 ?_
      refine g_ild1 eX11_budget_14 ?_
      refine g_putI (ci := 10) (j := 15) rfl rfl (Nat.le_of_ble_eq_true rfl) (Nat.le_of_ble_eq_true rfl) (Nat.le_of_ble_eq_true rfl) rfl fl_X11_62 eX11_budget_15 ?_
      refine g_iconst (v := 1) (by decide) eX11_budget_18 ?_
      refine g_zret (ty := .boolean) rfl (by first | rfl | assumption) eX11_budget_19 ⟨_, rfl, ?_⟩
      try dsimp only
      first | (rw [if_pos (by omega)]; exact ⟨rfl, rfl⟩) | (rw [if_neg (by omega)]; exact ⟨rfl, rfl⟩)
    · try simp only [fa_lt, fa_le, fa_eq, Int32.reduceToInt] at hb8
      refine g_iconst (v := 0) (by decide) eX11_budget_11 ?_
      refine g_zret (ty := .boolean) rfl (by first | rfl | assumption) eX11_budget_12 ⟨_, rfl, ?_⟩
      try dsimp only
      first | (rw [if_pos (by omega)]; exact ⟨rfl, rfl⟩) | (rw [if_neg (by omega)]; exact ⟨rfl, rfl⟩)
theorem m_back (st : St) (x : Int32) (n : Nat) (hn : st.1 1 1 = nI n) (h : n ≤ 2000) : Mi l D cy 0 YX11_back [.ref 0, .int x] st (fun r u => if 0 ≤ x.toInt ∧ x.toInt ≤ n then r = nI (n - x.toInt.toNat) ∧ u = sI st 1 1 (nI (n - x.toInt.toNat)) else r = -1 ∧ u = st) := by
  have ht : (nI n).toInt = n := nI_toInt (by omega)
  refine M.ofG [some (.ref 0), some (.int x)] (by decide) (Nat.le_of_ble_eq_true rfl) rfl ?_
  intro xp xe xs xm xa xb xme xc xad xA
  refine g_ild1 eX11_back_0 ?_
  refine g_if_lt eX11_back_1 (fun hb => ?_) (fun hb => ?_)
  · simp only [fa_lt, Int32.reduceToInt] at hb
    refine g_iconst (v := (-1)) (by decide) eX11_back_15 ?_
    refine g_iret rfl eX11_back_16 ⟨_, rfl, ?_⟩
    try dsimp only
    rw [if_neg (by omega)]
    exact ⟨rfl, rfl⟩
  · simp only [fa_lt, Int32.reduceToInt] at hb
    refine g_ild1 eX11_back_4 ?_
    refine g_ald0 eX11_back_5 ?_
    refine g_getR (ci := 10) (j := 1) rfl (Nat.le_of_ble_eq_true rfl) (Nat.le_of_ble_eq_true rfl) (Nat.le_of_ble_eq_true rfl) rfl rfl fl_X11_10 eX11_back_6 ?_
    refine g_getI (ci := 8) (j := 1) rfl (Nat.le_of_ble_eq_true rfl) (Nat.le_of_ble_eq_true rfl) (Nat.le_of_ble_eq_true rfl) rfl fl_X11_100 eX11_back_9 ?_
    rw [hn]
    refine g_icmp_le eX11_back_12 (fun h2 => ?_) (fun h2 => ?_)
    · rw [fa_le, ht] at h2
      have e : nI n - x = nI (n - x.toInt.toNat) := by
        rw [fa_eq, nI_toInt (by omega), fb_subI] <;> rw [ht] <;> omega
      refine g_ald0 eX11_back_17 ?_
      refine g_getR (ci := 10) (j := 1) rfl (Nat.le_of_ble_eq_true rfl) (Nat.le_of_ble_eq_true rfl) (Nat.le_of_ble_eq_true rfl) rfl rfl fl_X11_10 eX11_back_18 ?_
      refine g_dup rfl eX11_back_21 ?_
      refine g_getI (ci := 8) (j := 1) rfl (Nat.le_of_ble_eq_true rfl) (Nat.le_of_ble_eq_true rfl) (Nat.le_of_ble_eq_true rfl) rfl fl_X11_100 eX11_back_22 ?_
      refine g_ild1 eX11_back_25 ?_
      refine g_isub eX11_back_26 ?_
      refine g_putI (ci := 8) (j := 1) rfl rfl (Nat.le_of_ble_eq_true rfl) (Nat.le_of_ble_eq_true rfl) (Nat.le_of_ble_eq_true rfl) rfl fl_X11_100 eX11_back_27 ?_
      refine g_ald0 eX11_back_30 ?_
      refine g_getR (ci := 10) (j := 1) rfl (Nat.le_of_ble_eq_true rfl) (Nat.le_of_ble_eq_true rfl) (Nat.le_of_ble_eq_true rfl) rfl rfl fl_X11_10 eX11_back_31 ?_
      refine g_getI (ci := 8) (j := 1) rfl (Nat.le_of_ble_eq_true rfl) (Nat.le_of_ble_eq_true rfl) (Nat.le_of_ble_eq_true rfl) rfl fl_X11_100 eX11_back_34 ?_
      refine g_iret rfl eX11_back_37 ⟨_, rfl, ?_⟩
      try dsimp only
      rw [if_pos (by omega), sI_1, if_pos ⟨rfl, rfl⟩, hn, e]
      exact ⟨rfl, rfl⟩
    · rw [fa_le, ht] at h2
      refine g_iconst (v := (-1)) (by decide) eX11_back_15 ?_
      refine g_iret rfl eX11_back_16 ⟨_, rfl, ?_⟩
      try dsimp only
      rw [if_neg (by omega)]
      exact ⟨rfl, rfl⟩
theorem m_key (st : St) (p0 q b : Int32) (nk : Nat) (hn : st.1 0 7 = nI nk) (h : nk ≤ 4) : Mi l D cy 1 YX11_key [.ref 0, .int p0, .int q, .int b] st (fun r u => if nk < 4 ∧ goodKey p0.toInt q.toInt b.toInt then r = nI nk ∧ u = sI (sI (sI (sI (sI st (83 + 3 * nk) 0 p0) (83 + 3 * nk) 1 q) (83 + 3 * nk) 2 b) (83 + 3 * nk) 3 1) 0 7 (nI (nk + 1)) else r = -1 ∧ u = st) := by
  have ht : (nI nk).toInt = nk := nI_toInt (by omega)
  refine M.ofG [some (.ref 0), some (.int p0), some (.int q), some (.int b)] (by decide) (Nat.le_of_ble_eq_true rfl) rfl ?_
  intro xp xe xs xm xa xb xme xc xad xA
  refine g_ald0 eX11_key_0 ?_
  refine g_getI (ci := 10) (j := 7) (by first | rfl | exact kd_key hi | exact kd_sh hi | exact kd_ya hi | exact kd_pr hq | exact kd_pk hq | exact kd_pf hq | exact kd_ps hq | exact kd_po hq | exact kd_pr hq2 | exact kd_pk hq2 | exact kd_pf hq2 | exact kd_ps hq2 | exact kd_po hq2) (by first | decide | (unfold N0; omega)) (Nat.le_of_ble_eq_true rfl) (Nat.le_of_ble_eq_true rfl) rfl fl_X11_33 eX11_key_1 ?_
  refine g_iconst (v := 4) (by decide) eX11_key_4 ?_
  rw [hn]
  refine g_icmp_ge eX11_key_5 (fun hb => ?_) (fun hb => ?_)
  · simp only [fa_le, Int32.reduceToInt, ht] at hb
    refine g_iconst (v := (-1)) (by decide) eX11_key_17 ?_
    refine g_iret rfl eX11_key_18 ⟨_, rfl, ?_⟩
    try dsimp only
    rw [if_neg (by omega)]
    exact ⟨rfl, rfl⟩
  · simp only [fa_le, Int32.reduceToInt, ht] at hb
    have hi : nk < 4 := by omega
    refine g_ild1 eX11_key_8 ?_
    refine g_ild2 eX11_key_9 ?_
    refine g_ild3 eX11_key_10 ?_
    refine g_callSi (m_canBe _ p0 q b) cs_X11_128 eX11_key_11 ⟨Nat.le_of_ble_eq_true rfl, Nat.le_of_ble_eq_true rfl⟩ rfl rfl (Nat.le_of_ble_eq_true rfl) (fun r st h1 => ?_)
    obtain ⟨rfl, rfl⟩ := h1
    refine g_if_ne eX11_key_14 (fun h2 => ?_) (fun h2 => ?_)
    · rw [b2_ne0] at h2
      refine g_ald0 eX11_key_19 ?_
      refine g_getR (ci := 10) (j := 6) (by first | rfl | exact kd_key hi | exact kd_sh hi | exact kd_ya hi | exact kd_pr hq | exact kd_pk hq | exact kd_pf hq | exact kd_ps hq | exact kd_po hq | exact kd_pr hq2 | exact kd_pk hq2 | exact kd_pf hq2 | exact kd_ps hq2 | exact kd_po hq2) (by first | decide | (unfold N0; omega)) (Nat.le_of_ble_eq_true rfl) (Nat.le_of_ble_eq_true rfl) rfl (by first | rfl | exact r_key4 hi | exact r_sh0 hi | exact r_p0 hq | exact r_p1 hq | exact r_p2 hq | exact r_p3 hq | exact r_p0 hq2 | exact r_p1 hq2 | exact r_p2 hq2 | exact r_p3 hq2) fl_X11_29 eX11_key_20 ?_
      refine g_ald0 eX11_key_23 ?_
      refine g_getI (ci := 10) (j := 7) (by first | rfl | exact kd_key hi | exact kd_sh hi | exact kd_ya hi | exact kd_pr hq | exact kd_pk hq | exact kd_pf hq | exact kd_ps hq | exact kd_po hq | exact kd_pr hq2 | exact kd_pk hq2 | exact kd_pf hq2 | exact kd_ps hq2 | exact kd_po hq2) (by first | decide | (unfold N0; omega)) (Nat.le_of_ble_eq_true rfl) (Nat.le_of_ble_eq_true rfl) rfl fl_X11_33 eX11_key_24 ?_
      rw [hn]
      refine g_aald (by decide) (Nat.le_of_ble_eq_true rfl) (keyIx hi).1 (keyIx hi).2 eX11_key_27 ?_
      refine g_ild1 eX11_key_28 ?_
      refine g_ild2 eX11_key_29 ?_
      refine g_ild3 eX11_key_30 ?_
      refine g_callVv (ci := 2) (m_becomes _ hi p0 q b) (by first | rfl | exact kd_key hi | exact kd_sh hi | exact kd_ya hi | exact kd_pr hq | exact kd_pk hq | exact kd_pf hq | exact kd_ps hq | exact kd_po hq | exact kd_pr hq2 | exact kd_pk hq2 | exact kd_pf hq2 | exact kd_ps hq2 | exact kd_po hq2) (by first | decide | (unfold N0; omega)) (Nat.le_of_ble_eq_true rfl) rfl cv_X11_132 eX11_key_31 ⟨Nat.le_of_ble_eq_true rfl, Nat.le_of_ble_eq_true rfl⟩ rfl rfl (Nat.le_of_ble_eq_true rfl) (fun u h3 => ?_)
      subst h3
      refine g_ald0 eX11_key_34 ?_
      refine g_dup rfl eX11_key_35 ?_
      refine g_getI (ci := 10) (j := 7) (by first | rfl | exact kd_key hi | exact kd_sh hi | exact kd_ya hi | exact kd_pr hq | exact kd_pk hq | exact kd_pf hq | exact kd_ps hq | exact kd_po hq | exact kd_pr hq2 | exact kd_pk hq2 | exact kd_pf hq2 | exact kd_ps hq2 | exact kd_po hq2) (by first | decide | (unfold N0; omega)) (Nat.le_of_ble_eq_true rfl) (Nat.le_of_ble_eq_true rfl) rfl fl_X11_33 eX11_key_36 ?_
      refine g_iconst (v := 1) (by decide) eX11_key_39 ?_
      refine g_iadd eX11_key_40 ?_
      refine g_putI (ci := 10) (j := 7) rfl (by first | rfl | exact kd_key hi | exact kd_sh hi | exact kd_ya hi | exact kd_pr hq | exact kd_pk hq | exact kd_pf hq | exact kd_ps hq | exact kd_po hq | exact kd_pr hq2 | exact kd_pk hq2 | exact kd_pf hq2 | exact kd_ps hq2 | exact kd_po hq2) (by first | decide | (unfold N0; omega)) (Nat.le_of_ble_eq_true rfl) (Nat.le_of_ble_eq_true rfl) rfl fl_X11_33 eX11_key_41 ?_
      refine g_ald0 eX11_key_44 ?_
      refine g_getI (ci := 10) (j := 7) (by first | rfl | exact kd_key hi | exact kd_sh hi | exact kd_ya hi | exact kd_pr hq | exact kd_pk hq | exact kd_pf hq | exact kd_ps hq | exact kd_po hq | exact kd_pr hq2 | exact kd_pk hq2 | exact kd_pf hq2 | exact kd_ps hq2 | exact kd_po hq2) (by first | decide | (unfold N0; omega)) (Nat.le_of_ble_eq_true rfl) (Nat.le_of_ble_eq_true rfl) rfl fl_X11_33 eX11_key_45 ?_
      refine g_iconst (v := 1) (by decide) eX11_key_48 ?_
      refine g_isub eX11_key_49 ?_
      refine g_iret rfl eX11_key_50 ⟨_, rfl, ?_⟩
      try dsimp only
      have e : (sI (sI (sI (sI st (83 + 3 * nk) 0 p0) (83 + 3 * nk) 1 q) (83 + 3 * nk) 2 b) (83 + 3 * nk) 3 1).1 0 7 = nI nk := by
        rw [sI_1, if_neg (by omega), sI_1, if_neg (by omega), sI_1, if_neg (by omega), sI_1, if_neg (by omega), hn]
      rw [if_pos ⟨hi, h2⟩, e, nI_1, sI_1, if_pos ⟨rfl, rfl⟩]
      exact ⟨nI_pred nk, rfl⟩
    · rw [b2_eq0] at h2
      refine g_iconst (v := (-1)) (by decide) eX11_key_17 ?_
      refine g_iret rfl eX11_key_18 ⟨_, rfl, ?_⟩
      try dsimp only
      rw [if_neg (fun h => h2 h.2)]
      exact ⟨rfl, rfl⟩
theorem m_dead (st : St) (x : Int32) (hk : (st.1 0 7).toInt ≤ 4) : Mi l D cy 2 YX11_dead [.ref 0, .int x] st (fun r u => if alvX st x.toInt then r = 1 ∧ u = sI st (83 + 3 * x.toInt.toNat) 3 0 else r = 0 ∧ u = st) := by
  refine M.ofG [some (.ref 0), some (.int x)] (by decide) (Nat.le_of_ble_eq_true rfl) rfl ?_
  intro xp xe xs xm xa xb xme xc xad xA
  refine g_ald0 eX11_dead_0 ?_
  refine g_ild1 eX11_dead_1 ?_
  refine g_callVi (ci := 10) (m_isAlive st x hk) (by first | rfl | exact kd_key hi | exact kd_sh hi | exact kd_ya hi | exact kd_pr hq | exact kd_pk hq | exact kd_pf hq | exact kd_ps hq | exact kd_po hq | exact kd_pr hq2 | exact kd_pk hq2 | exact kd_pf hq2 | exact kd_ps hq2 | exact kd_po hq2) (by first | decide | (unfold N0; omega)) (Nat.le_of_ble_eq_true rfl) rfl cv_X11_136 eX11_dead_2 ⟨Nat.le_of_ble_eq_true rfl, Nat.le_of_ble_eq_true rfl⟩ rfl rfl (Nat.le_of_ble_eq_true rfl) (fun r st h => ?_)
  obtain ⟨rfl, rfl⟩ := h
  refine g_if_ne eX11_dead_5 (fun hb => ?_) (fun hb => ?_)
  · rw [b2_ne0] at hb
    obtain ⟨i, hi, rfl⟩ := as_nI (x := x) (n := 4) (by have := hb.1; omega)
    have ht : (nI i).toInt = i := nI_toInt (by omega)
    refine g_ald0 eX11_dead_10 ?_
    refine g_getR (ci := 10) (j := 6) (by first | rfl | exact kd_key hi | exact kd_sh hi | exact kd_ya hi | exact kd_pr hq | exact kd_pk hq | exact kd_pf hq | exact kd_ps hq | exact kd_po hq | exact kd_pr hq2 | exact kd_pk hq2 | exact kd_pf hq2 | exact kd_ps hq2 | exact kd_po hq2) (by first | decide | (unfold N0; omega)) (Nat.le_of_ble_eq_true rfl) (Nat.le_of_ble_eq_true rfl) rfl (by first | rfl | exact r_key4 hi | exact r_sh0 hi | exact r_p0 hq | exact r_p1 hq | exact r_p2 hq | exact r_p3 hq | exact r_p0 hq2 | exact r_p1 hq2 | exact r_p2 hq2 | exact r_p3 hq2) fl_X11_29 eX11_dead_11 ?_
    refine g_ild1 eX11_dead_14 ?_
    refine g_aald (by decide) (Nat.le_of_ble_eq_true rfl) (keyIx hi).1 (keyIx hi).2 eX11_dead_15 ?_
    refine g_iconst (v := 0) (by decide) eX11_dead_16 ?_
    refine g_putZ (ci := 2) (j := 3) rfl (by first | exact Or.inl rfl | exact Or.inr rfl) (by first | rfl | exact kd_key hi | exact kd_sh hi | exact kd_ya hi | exact kd_pr hq | exact kd_pk hq | exact kd_pf hq | exact kd_ps hq | exact kd_po hq | exact kd_pr hq2 | exact kd_pk hq2 | exact kd_pf hq2 | exact kd_ps hq2 | exact kd_po hq2) (by first | decide | (unfold N0; omega)) (Nat.le_of_ble_eq_true rfl) (Nat.le_of_ble_eq_true rfl) rfl fl_X11_140 eX11_dead_17 ?_
    refine g_iconst (v := 1) (by decide) eX11_dead_20 ?_
    refine g_zret (ty := .boolean) rfl (by first | rfl | assumption) eX11_dead_21 ⟨_, rfl, ?_⟩
    try dsimp only
    rw [if_pos hb, show (nI i).toInt.toNat = i by omega]
    exact ⟨rfl, rfl⟩
  · rw [b2_eq0] at hb
    refine g_iconst (v := 0) (by decide) eX11_dead_8 ?_
    refine g_zret (ty := .boolean) rfl (by first | rfl | assumption) eX11_dead_9 ⟨_, rfl, ?_⟩
    try dsimp only
    rw [if_neg hb]
    exact ⟨rfl, rfl⟩
end CLSA
