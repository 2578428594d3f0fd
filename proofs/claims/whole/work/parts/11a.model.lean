/-! SealedSumsModel: lots, keys, sealed ones -/
section MODA
variable {l : Launch} {D : va_G} {cy : Nat → ClassId}
theorem w_in (st : St) (x a b : Int32) : Mi l D cy 0 YX12_in [.int x, .int a, .int b] st (fun r u => u = st ∧ r = b2 (a.toInt ≤ x.toInt ∧ x.toInt ≤ b.toInt)) := by
  refine M.ofG [some (.int x), some (.int a), some (.int b)] (by decide) (Nat.le_of_ble_eq_true rfl) rfl ?_
  intro xp xe xs xm xa xb xme xc xad xA
  refine g_ild0 eX12_in_0 ?_
  refine g_ild1 eX12_in_1 ?_
  refine g_icmp_lt eX12_in_2 (fun hb2 => ?_) (fun hb2 => ?_)
  · try simp only [fa_lt, fa_le, fa_eq, Int32.reduceToInt] at hb2
    refine g_iconst (v := 0) (by decide) eX12_in_14 ?_
    refine g_zret (ty := .boolean) rfl (by first | rfl | assumption) eX12_in_15 ⟨_, rfl, ?_⟩
    try dsimp only
    first | exact ⟨rfl, b2_t (by omega)⟩ | exact ⟨rfl, b2_f (by omega)⟩
  · try simp only [fa_lt, fa_le, fa_eq, Int32.reduceToInt] at hb2
    refine g_ild0 eX12_in_5 ?_
    refine g_ild2 eX12_in_6 ?_
    refine g_icmp_gt eX12_in_7 (fun hb7 => ?_) (fun hb7 => ?_)
    · try simp only [fa_lt, fa_le, fa_eq, Int32.reduceToInt] at hb7
      refine g_iconst (v := 0) (by decide) eX12_in_14 ?_
      refine g_zret (ty := .boolean) rfl (by first | rfl | assumption) eX12_in_15 ⟨_, rfl, ?_⟩
      try dsimp only
      first | exact ⟨rfl, b2_t (by omega)⟩ | exact ⟨rfl, b2_f (by omega)⟩
    · try simp only [fa_lt, fa_le, fa_eq, Int32.reduceToInt] at hb7
      refine g_iconst (v := 1) (by decide) eX12_in_10 ?_
      refine g_goto eX12_in_11 ?_
      refine g_zret (ty := .boolean) rfl (by first | rfl | assumption) eX12_in_15 ⟨_, rfl, ?_⟩
      try dsimp only
      first | exact ⟨rfl, b2_t (by omega)⟩ | exact ⟨rfl, b2_f (by omega)⟩
theorem w_mixed (st : St) (a b : Int32) : Mi l D cy 0 YX12_mixed [.int a, .int b] st (fun r u => u = st ∧ r = mixI a b) := by
  refine M.ofG [some (.int a), some (.int b), none] (by decide) (Nat.le_of_ble_eq_true rfl) rfl ?_
  intro xp xe xs xm xa xb xme xc xad xA
  refine g_ild0 eX12_mixed_0 ?_
  refine g_ild1 eX12_mixed_1 ?_
  refine g_ixor eX12_mixed_2 ?_
  refine g_ldcw kc_X12_373 eX12_mixed_3 ?_
  refine g_imul eX12_mixed_6 ?_
  refine g_sipush (v := 12345) (by decide) eX12_mixed_7 ?_
  refine g_iadd eX12_mixed_10 ?_
  refine g_ist2 rfl (Nat.le_of_ble_eq_true rfl) eX12_mixed_11 ?_
  refine g_ild2 eX12_mixed_12 ?_
  refine g_ild2 eX12_mixed_13 ?_
  refine g_bipush (v := 15) (by decide) eX12_mixed_14 ?_
  refine g_iushr eX12_mixed_16 ?_
  refine g_ixor eX12_mixed_17 ?_
  exact g_iret rfl eX12_mixed_18 ⟨_, rfl, ⟨rfl, rfl⟩⟩
theorem w_lotOf (st : St) (a b n : Int32) (hn : 1 ≤ n.toInt) : Mi l D cy 1 YX12_lotOf [.int a, .int b, .int n] st (fun r u => u = st ∧ r.toInt = lotF a b n.toInt) := by
  refine M.ofG [some (.int a), some (.int b), some (.int n)] (by decide) (Nat.le_of_ble_eq_true rfl) rfl ?_
  intro xp xe xs xm xa xb xme xc xad xA
  refine g_ild0 eX12_lotOf_0 ?_
  refine g_bipush (v := 7) (by decide) eX12_lotOf_1 ?_
  refine g_callSi (w_mixed st a 7) cs_X12_374 eX12_lotOf_3 ⟨Nat.le_of_ble_eq_true rfl, Nat.le_of_ble_eq_true rfl⟩ rfl rfl (Nat.le_of_ble_eq_true rfl) (fun r1 st h1 => ?_)
  obtain ⟨rfl, rfl⟩ := h1
  refine g_ild1 eX12_lotOf_6 ?_
  refine g_callSi (w_mixed _ (mixI a 7) b) cs_X12_374 eX12_lotOf_7 ⟨Nat.le_of_ble_eq_true rfl, Nat.le_of_ble_eq_true rfl⟩ rfl rfl (Nat.le_of_ble_eq_true rfl) (fun r1 st h1 => ?_)
  obtain ⟨rfl, rfl⟩ := h1
  refine g_iconst (v := 1) (by decide) eX12_lotOf_10 ?_
  refine g_iushr eX12_lotOf_11 ?_
  refine g_ild2 eX12_lotOf_12 ?_
  refine g_irem (fun e => by rw [fa_eq, z32] at e; omega) eX12_lotOf_13 ?_
  refine g_iret rfl eX12_lotOf_14 ⟨_, rfl, ?_⟩
  try dsimp only
  refine ⟨rfl, ?_⟩
  rw [rem32 (by omega), lotF_eq]
  exact Int.tmod_eq_emod_of_nonneg (half_nonneg _)
theorem w_isKey (st : St) (x : Int32) : Mi l D cy 0 YX12_isKey [.ref 31, .int x] st (fun r u => u = st ∧ r = b2 (0 ≤ x.toInt ∧ x.toInt < (st.1 31 53).toInt)) := by
  refine M.ofG [some (.ref 31), some (.int x)] (by decide) (Nat.le_of_ble_eq_true rfl) rfl ?_
  intro xp xe xs xm xa xb xme xc xad xA
  refine g_ild1 eX12_isKey_0 ?_
  refine g_if_lt eX12_isKey_1 (fun hb1 => ?_) (fun hb1 => ?_)
  · try simp only [fa_lt, fa_le, fa_eq, Int32.reduceToInt] at hb1
    refine g_iconst (v := 0) (by decide) eX12_isKey_16 ?_
    refine g_zret (ty := .boolean) rfl (by first | rfl | assumption) eX12_isKey_17 ⟨_, rfl, ?_⟩
    try dsimp only
    first | exact ⟨rfl, b2_t (by omega)⟩ | exact ⟨rfl, b2_f (by omega)⟩
  · try simp only [fa_lt, fa_le, fa_eq, Int32.reduceToInt] at hb1
    refine g_ild1 eX12_isKey_4 ?_
    refine g_ald0 eX12_isKey_5 ?_
    refine g_getI (ci := 11) (j := 53) rfl (Nat.le_of_ble_eq_true rfl) (Nat.le_of_ble_eq_true rfl) (Nat.le_of_ble_eq_true rfl) rfl fl_X12_385 eX12_isKey_6 ?_
    refine g_icmp_ge eX12_isKey_9 (fun hb9 => ?_) (fun hb9 => ?_)
    · try simp only [fa_lt, fa_le, fa_eq, Int32.reduceToInt] at hb9
      refine g_iconst (v := 0) (by decide) eX12_isKey_16 ?_
      refine g_zret (ty := .boolean) rfl (by first | rfl | assumption) eX12_isKey_17 ⟨_, rfl, ?_⟩
      try dsimp only
      first | exact ⟨rfl, b2_t (by omega)⟩ | exact ⟨rfl, b2_f (by omega)⟩
    · try simp only [fa_lt, fa_le, fa_eq, Int32.reduceToInt] at hb9
      refine g_iconst (v := 1) (by decide) eX12_isKey_12 ?_
      refine g_goto eX12_isKey_13 ?_
      refine g_zret (ty := .boolean) rfl (by first | rfl | assumption) eX12_isKey_17 ⟨_, rfl, ?_⟩
      try dsimp only
      first | exact ⟨rfl, b2_t (by omega)⟩ | exact ⟨rfl, b2_f (by omega)⟩
theorem w_isNumber (st : St) (x : Int32) : Mi l D cy 0 YX12_isNumber [.ref 31, .int x] st (fun r u => u = st ∧ r = b2 (0 ≤ x.toInt ∧ x.toInt < (st.1 31 17).toInt)) := by
  refine M.ofG [some (.ref 31), some (.int x)] (by decide) (Nat.le_of_ble_eq_true rfl) rfl ?_
  intro xp xe xs xm xa xb xme xc xad xA
  refine g_ild1 eX12_isNumber_0 ?_
  refine g_if_lt eX12_isNumber_1 (fun hb1 => ?_) (fun hb1 => ?_)
  · try simp only [fa_lt, fa_le, fa_eq, Int32.reduceToInt] at hb1
    refine g_iconst (v := 0) (by decide) eX12_isNumber_16 ?_
    refine g_zret (ty := .boolean) rfl (by first | rfl | assumption) eX12_isNumber_17 ⟨_, rfl, ?_⟩
    try dsimp only
    first | exact ⟨rfl, b2_t (by omega)⟩ | exact ⟨rfl, b2_f (by omega)⟩
  · try simp only [fa_lt, fa_le, fa_eq, Int32.reduceToInt] at hb1
    refine g_ild1 eX12_isNumber_4 ?_
    refine g_ald0 eX12_isNumber_5 ?_
    refine g_getI (ci := 11) (j := 17) rfl (Nat.le_of_ble_eq_true rfl) (Nat.le_of_ble_eq_true rfl) (Nat.le_of_ble_eq_true rfl) rfl fl_X12_174 eX12_isNumber_6 ?_
    refine g_icmp_ge eX12_isNumber_9 (fun hb9 => ?_) (fun hb9 => ?_)
    · try simp only [fa_lt, fa_le, fa_eq, Int32.reduceToInt] at hb9
      refine g_iconst (v := 0) (by decide) eX12_isNumber_16 ?_
      refine g_zret (ty := .boolean) rfl (by first | rfl | assumption) eX12_isNumber_17 ⟨_, rfl, ?_⟩
      try dsimp only
      first | exact ⟨rfl, b2_t (by omega)⟩ | exact ⟨rfl, b2_f (by omega)⟩
    · try simp only [fa_lt, fa_le, fa_eq, Int32.reduceToInt] at hb9
      refine g_iconst (v := 1) (by decide) eX12_isNumber_12 ?_
      refine g_goto eX12_isNumber_13 ?_
      refine g_zret (ty := .boolean) rfl (by first | rfl | assumption) eX12_isNumber_17 ⟨_, rfl, ?_⟩
      try dsimp only
      first | exact ⟨rfl, b2_t (by omega)⟩ | exact ⟨rfl, b2_f (by omega)⟩
theorem w_isSealed (st : St) (x : Int32) : Mi l D cy 0 YX12_isSealed [.ref 31, .int x] st (fun r u => u = st ∧ r = b2 (0 ≤ x.toInt ∧ x.toInt < (st.1 31 58).toInt)) := by
  refine M.ofG [some (.ref 31), some (.int x)] (by decide) (Nat.le_of_ble_eq_true rfl) rfl ?_
  intro xp xe xs xm xa xb xme xc xad xA
  refine g_ild1 eX12_isSealed_0 ?_
  refine g_if_lt eX12_isSealed_1 (fun hb1 => ?_) (fun hb1 => ?_)
  · try simp only [fa_lt, fa_le, fa_eq, Int32.reduceToInt] at hb1
    refine g_iconst (v := 0) (by decide) eX12_isSealed_16 ?_
    refine g_zret (ty := .boolean) rfl (by first | rfl | assumption) eX12_isSealed_17 ⟨_, rfl, ?_⟩
    try dsimp only
    first | exact ⟨rfl, b2_t (by omega)⟩ | exact ⟨rfl, b2_f (by omega)⟩
  · try simp only [fa_lt, fa_le, fa_eq, Int32.reduceToInt] at hb1
    refine g_ild1 eX12_isSealed_4 ?_
    refine g_ald0 eX12_isSealed_5 ?_
    refine g_getI (ci := 11) (j := 58) rfl (Nat.le_of_ble_eq_true rfl) (Nat.le_of_ble_eq_true rfl) (Nat.le_of_ble_eq_true rfl) rfl fl_X12_408 eX12_isSealed_6 ?_
    refine g_icmp_ge eX12_isSealed_9 (fun hb9 => ?_) (fun hb9 => ?_)
    · try simp only [fa_lt, fa_le, fa_eq, Int32.reduceToInt] at hb9
      refine g_iconst (v := 0) (by decide) eX12_isSealed_16 ?_
      refine g_zret (ty := .boolean) rfl (by first | rfl | assumption) eX12_isSealed_17 ⟨_, rfl, ?_⟩
      try dsimp only
      first | exact ⟨rfl, b2_t (by omega)⟩ | exact ⟨rfl, b2_f (by omega)⟩
    · try simp only [fa_lt, fa_le, fa_eq, Int32.reduceToInt] at hb9
      refine g_iconst (v := 1) (by decide) eX12_isSealed_12 ?_
      refine g_goto eX12_isSealed_13 ?_
      refine g_zret (ty := .boolean) rfl (by first | rfl | assumption) eX12_isSealed_17 ⟨_, rfl, ?_⟩
      try dsimp only
      first | exact ⟨rfl, b2_t (by omega)⟩ | exact ⟨rfl, b2_f (by omega)⟩
theorem w_isProgram (st : St) (x : Int32) : Mi l D cy 0 YX12_isProgram [.ref 31, .int x] st (fun r u => u = st ∧ r = b2 (0 ≤ x.toInt ∧ x.toInt < (st.1 31 19).toInt)) := by
  refine M.ofG [some (.ref 31), some (.int x)] (by decide) (Nat.le_of_ble_eq_true rfl) rfl ?_
  intro xp xe xs xm xa xb xme xc xad xA
  refine g_ild1 eX12_isProgram_0 ?_
  refine g_if_lt eX12_isProgram_1 (fun hb1 => ?_) (fun hb1 => ?_)
  · try simp only [fa_lt, fa_le, fa_eq, Int32.reduceToInt] at hb1
    refine g_iconst (v := 0) (by decide) eX12_isProgram_16 ?_
    refine g_zret (ty := .boolean) rfl (by first | rfl | assumption) eX12_isProgram_17 ⟨_, rfl, ?_⟩
    try dsimp only
    first | exact ⟨rfl, b2_t (by omega)⟩ | exact ⟨rfl, b2_f (by omega)⟩
  · try simp only [fa_lt, fa_le, fa_eq, Int32.reduceToInt] at hb1
    refine g_ild1 eX12_isProgram_4 ?_
    refine g_ald0 eX12_isProgram_5 ?_
    refine g_getI (ci := 11) (j := 19) rfl (Nat.le_of_ble_eq_true rfl) (Nat.le_of_ble_eq_true rfl) (Nat.le_of_ble_eq_true rfl) rfl fl_X12_241 eX12_isProgram_6 ?_
    refine g_icmp_ge eX12_isProgram_9 (fun hb9 => ?_) (fun hb9 => ?_)
    · try simp only [fa_lt, fa_le, fa_eq, Int32.reduceToInt] at hb9
      refine g_iconst (v := 0) (by decide) eX12_isProgram_16 ?_
      refine g_zret (ty := .boolean) rfl (by first | rfl | assumption) eX12_isProgram_17 ⟨_, rfl, ?_⟩
      try dsimp only
      first | exact ⟨rfl, b2_t (by omega)⟩ | exact ⟨rfl, b2_f (by omega)⟩
    · try simp only [fa_lt, fa_le, fa_eq, Int32.reduceToInt] at hb9
      refine g_iconst (v := 1) (by decide) eX12_isProgram_12 ?_
      refine g_goto eX12_isProgram_13 ?_
      refine g_zret (ty := .boolean) rfl (by first | rfl | assumption) eX12_isProgram_17 ⟨_, rfl, ?_⟩
      try dsimp only
      first | exact ⟨rfl, b2_t (by omega)⟩ | exact ⟨rfl, b2_f (by omega)⟩
/-- booleans in a row are 0 or 1 -/
abbrev alvM (st : St) (x : Int) : Prop := (0 ≤ x ∧ x < (st.1 31 53).toInt) ∧ st.1 66 x.toNat = 0
theorem w_isAlive (st : St) (x : Int32) (hk : (st.1 31 53).toInt ≤ 4) : Mi l D cy 1 YX12_isAlive [.ref 31, .int x] st (fun r u => u = st ∧ r = b2 (alvM st x.toInt)) := by
  refine M.ofG [some (.ref 31), some (.int x)] (by decide) (Nat.le_of_ble_eq_true rfl) rfl ?_
  intro xp xe xs xm xa xb xme xc xad xA
  refine g_ald0 eX12_isAlive_0 ?_
  refine g_ild1 eX12_isAlive_1 ?_
  refine g_callVi (ci := 11) (w_isKey st x) rfl (Nat.le_of_ble_eq_true rfl) (Nat.le_of_ble_eq_true rfl) rfl cv_X12_388 eX12_isAlive_2 ⟨Nat.le_of_ble_eq_true rfl, Nat.le_of_ble_eq_true rfl⟩ rfl rfl (Nat.le_of_ble_eq_true rfl) (fun r st h => ?_)
  obtain ⟨rfl, rfl⟩ := h
  refine g_if_eq eX12_isAlive_5 (fun hb => ?_) (fun hb => ?_)
  · rw [b2_eq0] at hb
    refine g_iconst (v := 0) (by decide) eX12_isAlive_21 ?_
    exact g_zret (ty := .boolean) rfl (by first | rfl | assumption) eX12_isAlive_22 ⟨_, rfl, ⟨rfl, b2_f (fun h => hb h.1)⟩⟩
  · rw [b2_ne0] at hb
    refine g_ald0 eX12_isAlive_8 ?_
    refine g_getR (ci := 11) (j := 57) rfl (Nat.le_of_ble_eq_true rfl) (Nat.le_of_ble_eq_true rfl) (Nat.le_of_ble_eq_true rfl) rfl rfl fl_X12_118 eX12_isAlive_9 ?_
    refine g_ild1 eX12_isAlive_12 ?_
    refine g_zald rfl (Nat.le_of_ble_eq_true rfl) (vin (n := 4) (by omega) (by omega)) eX12_isAlive_13 ?_
    refine g_if_ne eX12_isAlive_14 (fun h2 => ?_) (fun h2 => ?_)
    · refine g_iconst (v := 0) (by decide) eX12_isAlive_21 ?_
      exact g_zret (ty := .boolean) rfl (by first | rfl | assumption) eX12_isAlive_22 ⟨_, rfl, ⟨rfl, b2_f (fun h => h2 h.2)⟩⟩
    · refine g_iconst (v := 1) (by decide) eX12_isAlive_17 ?_
      refine g_goto eX12_isAlive_18 ?_
      exact g_zret (ty := .boolean) rfl (by first | rfl | assumption) eX12_isAlive_22 ⟨_, rfl, ⟨rfl, b2_t ⟨hb, h2⟩⟩⟩
abbrev mkOK (st : St) (k : Nat) : Prop := kOK (st.1 63 k).toInt (st.1 64 k).toInt (st.1 65 k).toInt
theorem w_whole (st : St) (k : Nat) (hk : k < 4) : Ml l D cy 0 YX12_whole [.ref 31, .int (nI k)] st (fun r u => u = st ∧ r.toInt = (st.1 63 k).toInt * (st.1 64 k).toInt) := by
  have hc : (nI k).toNatClampNeg = k := nI_clamp (by omega)
  refine M.ofG [some (.ref 31), some (.int (nI k))] (by decide) (Nat.le_of_ble_eq_true rfl) rfl ?_
  intro xp xe xs xm xa xb xme xc xad xA
  refine g_ald0 eX12_whole_0 ?_
  refine g_getR (ci := 11) (j := 54) rfl (Nat.le_of_ble_eq_true rfl) (Nat.le_of_ble_eq_true rfl) (Nat.le_of_ble_eq_true rfl) rfl rfl fl_X12_109 eX12_whole_1 ?_
  refine g_ild1 eX12_whole_4 ?_
  refine g_iald rfl (Nat.le_of_ble_eq_true rfl) (vp_in_nI (n := k) (N := 4) hk (by decide)) eX12_whole_5 ?_
  refine g_i2l eX12_whole_6 ?_
  refine g_ald0 eX12_whole_7 ?_
  refine g_getR (ci := 11) (j := 55) rfl (Nat.le_of_ble_eq_true rfl) (Nat.le_of_ble_eq_true rfl) (Nat.le_of_ble_eq_true rfl) rfl rfl fl_X12_112 eX12_whole_8 ?_
  refine g_ild1 eX12_whole_11 ?_
  refine g_iald rfl (Nat.le_of_ble_eq_true rfl) (vp_in_nI (n := k) (N := 4) hk (by decide)) eX12_whole_12 ?_
  refine g_i2l eX12_whole_13 ?_
  refine g_lmul eX12_whole_14 ?_
  refine g_lret rfl eX12_whole_15 ⟨_, rfl, ?_⟩
  try dsimp only
  rw [hc]
  exact ⟨rfl, mulW _ _⟩
theorem w_rest (st : St) (v : Int64) (k : Nat) (hk : k < 4) (ho : mkOK st k) : Ml l D cy 1 YX12_rest [.ref 31, .long v, .int (nI k)] st (fun r u => u = st ∧ r.toInt = v.toInt % ((st.1 63 k).toInt * (st.1 64 k).toInt)) := by
  have hpq := pq_rng ho
  refine M.ofG [some (.ref 31), some (.long v), none, some (.int (nI k)), none, none, none, none] (by decide) (Nat.le_of_ble_eq_true rfl) rfl ?_
  intro xp xe xs xm xa xb xme xc xad xA
  refine g_ald0 eX12_rest_0 ?_
  refine g_ild3 eX12_rest_1 ?_
  refine g_callVl (ci := 11) (w_whole st k hk) rfl (Nat.le_of_ble_eq_true rfl) (Nat.le_of_ble_eq_true rfl) rfl cv_X12_395 eX12_rest_2 ⟨Nat.le_of_ble_eq_true rfl, Nat.le_of_ble_eq_true rfl⟩ rfl rfl (Nat.le_of_ble_eq_true rfl) (fun x st hx => ?_)
  obtain ⟨rfl, hx⟩ := hx
  rw [← hx] at hpq ⊢
  have hv := rem64 (x := v) (y := x) (by omega)
  have hm := tmod_rng v.toInt x.toInt (by omega)
  refine g_lst4 rfl (Nat.le_of_ble_eq_true rfl) eX12_rest_5 ?_
  refine g_lld1 eX12_rest_7 ?_
  refine g_lld4 eX12_rest_8 ?_
  refine g_lrem (fun e => by rw [fa_eq64, z64] at e; omega) eX12_rest_10 ?_
  refine g_lst6 rfl (Nat.le_of_ble_eq_true rfl) eX12_rest_11 ?_
  generalize v - v / x * x = w at hv ⊢
  refine g_lld6 eX12_rest_13 ?_
  refine g_lconst (v := 0) rfl eX12_rest_15 ?_
  refine g_lcmp eX12_rest_16 ?_
  refine g_if_ge eX12_rest_17 (fun hb => ?_) (fun hb => ?_)
  · rw [cmp_ge, z64] at hb
    refine g_lld6 eX12_rest_28 ?_
    exact g_lret rfl eX12_rest_30 ⟨_, rfl, ⟨rfl, by rw [hv]; exact emod_of_tmod (by omega) (by omega)⟩⟩
  · rw [cmp_ge, z64] at hb
    refine g_lld6 eX12_rest_20 ?_
    refine g_lld4 eX12_rest_22 ?_
    refine g_ladd eX12_rest_24 ?_
    refine g_goto eX12_rest_25 ?_
    refine g_lret rfl eX12_rest_30 ⟨_, rfl, ?_⟩
    try dsimp only
    refine ⟨rfl, ?_⟩
    have e : (w + x).toInt = w.toInt + x.toInt := by rw [fb_addL] <;> omega
    rw [e, hv]
    exact emod_of_tmod' (by omega) (by omega)
theorem w_held (st : St) (b : Int64) : Ml l D cy 0 YX12_held [.long b] st (fun r u => u = st ∧ r.toInt = min 1000000 b.toInt) := by
  have e : (1000000 : Int64).toInt = 1000000 := rfl
  refine M.ofG [some (.long b), none] (by decide) (Nat.le_of_ble_eq_true rfl) rfl ?_
  intro xp xe xs xm xa xb xme xc xad xA
  refine g_lld0 eX12_held_0 ?_
  refine g_ldc2 kc_X12_399 eX12_held_1 ?_
  refine g_lcmp eX12_held_4 ?_
  refine g_if_le eX12_held_5 (fun hb => ?_) (fun hb => ?_)
  · rw [cmp_le, e] at hb
    refine g_lld0 eX12_held_14 ?_
    exact g_lret rfl eX12_held_15 ⟨_, rfl, ⟨rfl, by omega⟩⟩
  · rw [cmp_le, e] at hb
    refine g_ldc2 kc_X12_399 eX12_held_8 ?_
    refine g_goto eX12_held_11 ?_
    exact g_lret rfl eX12_held_15 ⟨_, rfl, ⟨rfl, by rw [e]; omega⟩⟩
theorem w_freshBound (st : St) (k : Nat) (hk : k < 4) (ho : mkOK st k) (ht : tOK (st.1 31 17)) : Ml l D cy 0 YX12_freshBound [.ref 31, .int (nI k)] st (fun r u => u = st ∧ r.toInt = (st.1 31 17).toInt * (st.1 65 k).toInt + (st.1 31 17).toInt - 1) := by
  have htb := tb_rng ht ho.2.2.2.2
  have hc : (nI k).toNatClampNeg = k := nI_clamp (by omega)
  have e1 := mulW (st.1 31 17) (st.1 65 k)
  have e2 : ((st.1 31 17).toInt64 * (st.1 65 k).toInt64 + (st.1 31 17).toInt64).toInt = (st.1 31 17).toInt * (st.1 65 k).toInt + (st.1 31 17).toInt := by rw [fb_addL] <;> rw [e1, tl] <;> omega
  refine M.ofG [some (.ref 31), some (.int (nI k))] (by decide) (Nat.le_of_ble_eq_true rfl) rfl ?_
  intro xp xe xs xm xa xb xme xc xad xA
  refine g_ald0 eX12_freshBound_0 ?_
  refine g_getI (ci := 11) (j := 17) rfl (Nat.le_of_ble_eq_true rfl) (Nat.le_of_ble_eq_true rfl) (Nat.le_of_ble_eq_true rfl) rfl fl_X12_174 eX12_freshBound_1 ?_
  refine g_i2l eX12_freshBound_4 ?_
  refine g_ald0 eX12_freshBound_5 ?_
  refine g_getR (ci := 11) (j := 56) rfl (Nat.le_of_ble_eq_true rfl) (Nat.le_of_ble_eq_true rfl) (Nat.le_of_ble_eq_true rfl) rfl rfl fl_X12_115 eX12_freshBound_6 ?_
  refine g_ild1 eX12_freshBound_9 ?_
  refine g_iald rfl (Nat.le_of_ble_eq_true rfl) (vp_in_nI (n := k) (N := 4) hk (by decide)) eX12_freshBound_10 ?_
  refine g_i2l eX12_freshBound_11 ?_
  refine g_lmul eX12_freshBound_12 ?_
  refine g_ald0 eX12_freshBound_13 ?_
  refine g_getI (ci := 11) (j := 17) rfl (Nat.le_of_ble_eq_true rfl) (Nat.le_of_ble_eq_true rfl) (Nat.le_of_ble_eq_true rfl) rfl fl_X12_174 eX12_freshBound_14 ?_
  refine g_i2l eX12_freshBound_17 ?_
  refine g_ladd eX12_freshBound_18 ?_
  refine g_lconst (v := 1) rfl eX12_freshBound_19 ?_
  refine g_lsub eX12_freshBound_20 ?_
  refine g_lret rfl eX12_freshBound_21 ⟨_, rfl, ?_⟩
  try dsimp only
  rw [hc]
  refine ⟨rfl, ?_⟩
  have eo : (1 : Int64).toInt = 1 := rfl
  rw [fb_subL] <;> rw [e2, eo] <;> omega
theorem w_freshC (st : St) (k : Nat) (hk : k < 4) (ho : mkOK st k) (ht : tOK (st.1 31 17)) (r e0 : Int64) (m0 : Int32) (hr : 0 ≤ r.toInt ∧ r.toInt ≤ 1000) (he : -10 ≤ e0.toInt ∧ e0.toInt ≤ 10) (hm : 0 ≤ m0.toInt ∧ m0.toInt < 13) : Ml l D cy 2 YX12_freshC [.ref 31, .int (nI k), .long r, .long e0, .int m0] st (fun z u => u = st ∧ z.toInt = maskF (st.1 63 k).toInt (st.1 64 k).toInt (st.1 31 17).toInt m0.toInt r.toInt e0.toInt) := by
  have hc : (nI k).toNatClampNeg = k := nI_clamp (by omega)
  have hp : 0 ≤ (st.1 63 k).toInt * r.toInt ∧ (st.1 63 k).toInt * r.toInt ≤ 99999 * 1000 := ⟨Int.mul_nonneg (by have := ho.1; omega) hr.1, Int.mul_le_mul ho.2.1 hr.2 hr.1 (by omega)⟩
  have hte : -130 ≤ (st.1 31 17).toInt * e0.toInt ∧ (st.1 31 17).toInt * e0.toInt ≤ 130 := by
    have a : (st.1 31 17).toInt * e0.toInt ≤ 13 * 10 := by
      by_cases hz : 0 ≤ e0.toInt
      · exact Int.mul_le_mul ht.2 he.2 hz (by omega)
      · have := Int.mul_nonneg (a := (st.1 31 17).toInt) (b := -e0.toInt) (by omega) (by omega)
        rw [Int.mul_neg] at this
        omega
    have b : (st.1 31 17).toInt * (-e0.toInt) ≤ 13 * 10 := by
      by_cases hz : 0 ≤ -e0.toInt
      · exact Int.mul_le_mul ht.2 (by omega) hz (by omega)
      · have := Int.mul_nonneg (a := (st.1 31 17).toInt) (b := e0.toInt) (by omega) (by omega)
        rw [Int.mul_neg]
        omega
    rw [Int.mul_neg] at b
    omega
  have e1 : ((st.1 63 k).toInt64 * r).toInt = (st.1 63 k).toInt * r.toInt := by rw [fb_mulL] <;> rw [tl] <;> omega
  have e2 : ((st.1 31 17).toInt64 * e0).toInt = (st.1 31 17).toInt * e0.toInt := by rw [fb_mulL] <;> rw [tl] <;> omega
  have e3 : ((st.1 63 k).toInt64 * r + (st.1 31 17).toInt64 * e0).toInt = (st.1 63 k).toInt * r.toInt + (st.1 31 17).toInt * e0.toInt := by rw [fb_addL] <;> rw [e1, e2] <;> omega
  have e4 : ((st.1 63 k).toInt64 * r + (st.1 31 17).toInt64 * e0 + m0.toInt64).toInt = (st.1 63 k).toInt * r.toInt + (st.1 31 17).toInt * e0.toInt + m0.toInt := by rw [fb_addL] <;> rw [e3, tl] <;> omega
  refine M.ofG [some (.ref 31), some (.int (nI k)), some (.long r), none, some (.long e0), none, some (.int m0)] (by decide) (Nat.le_of_ble_eq_true rfl) rfl ?_
  intro xp xe xs xm xa xb xme xc xad xA
  refine g_ald0 eX12_freshC_0 ?_
  refine g_ald0 eX12_freshC_1 ?_
  refine g_getR (ci := 11) (j := 54) rfl (Nat.le_of_ble_eq_true rfl) (Nat.le_of_ble_eq_true rfl) (Nat.le_of_ble_eq_true rfl) rfl rfl fl_X12_109 eX12_freshC_2 ?_
  refine g_ild1 eX12_freshC_5 ?_
  refine g_iald rfl (Nat.le_of_ble_eq_true rfl) (vp_in_nI (n := k) (N := 4) hk (by decide)) eX12_freshC_6 ?_
  refine g_i2l eX12_freshC_7 ?_
  refine g_lld2 eX12_freshC_8 ?_
  refine g_lmul eX12_freshC_9 ?_
  refine g_ald0 eX12_freshC_10 ?_
  refine g_getI (ci := 11) (j := 17) rfl (Nat.le_of_ble_eq_true rfl) (Nat.le_of_ble_eq_true rfl) (Nat.le_of_ble_eq_true rfl) rfl fl_X12_174 eX12_freshC_11 ?_
  refine g_i2l eX12_freshC_14 ?_
  refine g_lld4 eX12_freshC_15 ?_
  refine g_lmul eX12_freshC_17 ?_
  refine g_ladd eX12_freshC_18 ?_
  refine g_ild6 eX12_freshC_19 ?_
  refine g_i2l eX12_freshC_21 ?_
  refine g_ladd eX12_freshC_22 ?_
  refine g_ild1 eX12_freshC_23 ?_
  rw [hc]
  refine g_callVl (ci := 11) (w_rest _ _ k hk ho) rfl (Nat.le_of_ble_eq_true rfl) (Nat.le_of_ble_eq_true rfl) rfl cv_X12_401 eX12_freshC_24 ⟨Nat.le_of_ble_eq_true rfl, Nat.le_of_ble_eq_true rfl⟩ rfl rfl (Nat.le_of_ble_eq_true rfl) (fun z st hz => ?_)
  obtain ⟨rfl, hz⟩ := hz
  exact g_lret rfl eX12_freshC_27 ⟨_, rfl, ⟨rfl, by rw [hz, e4]; rfl⟩⟩
theorem w_freshOf (st : St) (k : Nat) (hk : k < 4) (ho : mkOK st k) (ht : tOK (st.1 31 17)) (m0 seed : Int32) (hm : 0 ≤ m0.toInt ∧ m0.toInt < 13) : Ml l D cy 3 YX12_freshOf [.ref 31, .int (nI k), .int m0, .int seed] st (fun z u => u = st ∧ z.toInt = freshF (st.1 63 k).toInt (st.1 64 k).toInt (st.1 65 k).toInt (st.1 31 17).toInt m0.toInt seed) := by
  have hc : (nI k).toNatClampNeg = k := nI_clamp (by omega)
  have hb := ho.2.2.2.2
  have hq := ho.2.2
  have e1 : ((2 : Int32) * st.1 65 k).toInt = 2 * (st.1 65 k).toInt := by
    have : (2 : Int32).toInt = 2 := rfl
    rw [fb_mulI] <;> rw [this] <;> omega
  have e2 : ((2 : Int32) * st.1 65 k + 1).toInt = 2 * (st.1 65 k).toInt + 1 := by rw [fb_addI] <;> rw [e1, o32] <;> omega
  have hl := lot_rng seed 1 (n := 2 * (st.1 65 k).toInt + 1) (by omega)
  have hl0 := lot_rng seed 0 (n := (st.1 64 k).toInt) (by omega)
  refine M.ofG [some (.ref 31), some (.int (nI k)), some (.int m0), some (.int seed), none, none, none, none] (by decide) (Nat.le_of_ble_eq_true rfl) rfl ?_
  intro xp xe xs xm xa xb xme xc xad xA
  refine g_ild3 eX12_freshOf_0 ?_
  refine g_iconst (v := 0) (by decide) eX12_freshOf_1 ?_
  refine g_ald0 eX12_freshOf_2 ?_
  refine g_getR (ci := 11) (j := 55) rfl (Nat.le_of_ble_eq_true rfl) (Nat.le_of_ble_eq_true rfl) (Nat.le_of_ble_eq_true rfl) rfl rfl fl_X12_112 eX12_freshOf_3 ?_
  refine g_ild1 eX12_freshOf_6 ?_
  refine g_iald rfl (Nat.le_of_ble_eq_true rfl) (vp_in_nI (n := k) (N := 4) hk (by decide)) eX12_freshOf_7 ?_
  rw [hc]
  refine g_callSi (w_lotOf _ seed 0 _ (by omega)) cs_X12_382 eX12_freshOf_8 ⟨Nat.le_of_ble_eq_true rfl, Nat.le_of_ble_eq_true rfl⟩ rfl rfl (Nat.le_of_ble_eq_true rfl) (fun r st hr => ?_)
  obtain ⟨rfl, hr⟩ := hr
  refine g_i2l eX12_freshOf_11 ?_
  refine g_lst4 rfl (Nat.le_of_ble_eq_true rfl) eX12_freshOf_12 ?_
  refine g_ild3 eX12_freshOf_14 ?_
  refine g_iconst (v := 1) (by decide) eX12_freshOf_15 ?_
  refine g_iconst (v := 2) (by decide) eX12_freshOf_16 ?_
  refine g_ald0 eX12_freshOf_17 ?_
  refine g_getR (ci := 11) (j := 56) rfl (Nat.le_of_ble_eq_true rfl) (Nat.le_of_ble_eq_true rfl) (Nat.le_of_ble_eq_true rfl) rfl rfl fl_X12_115 eX12_freshOf_18 ?_
  refine g_ild1 eX12_freshOf_21 ?_
  refine g_iald rfl (Nat.le_of_ble_eq_true rfl) (vp_in_nI (n := k) (N := 4) hk (by decide)) eX12_freshOf_22 ?_
  refine g_imul eX12_freshOf_23 ?_
  refine g_iconst (v := 1) (by decide) eX12_freshOf_24 ?_
  refine g_iadd eX12_freshOf_25 ?_
  rw [hc]
  refine g_callSi (w_lotOf _ seed 1 _ (by omega)) cs_X12_382 eX12_freshOf_26 ⟨Nat.le_of_ble_eq_true rfl, Nat.le_of_ble_eq_true rfl⟩ rfl rfl (Nat.le_of_ble_eq_true rfl) (fun z st hz => ?_)
  obtain ⟨rfl, hz⟩ := hz
  rw [e2] at hz
  have e3 : (z - st.1 65 k).toInt = lotF seed 1 (2 * (st.1 65 k).toInt + 1) - (st.1 65 k).toInt := by rw [fb_subI] <;> rw [hz] <;> omega
  refine g_ald0 eX12_freshOf_29 ?_
  refine g_getR (ci := 11) (j := 56) rfl (Nat.le_of_ble_eq_true rfl) (Nat.le_of_ble_eq_true rfl) (Nat.le_of_ble_eq_true rfl) rfl rfl fl_X12_115 eX12_freshOf_30 ?_
  refine g_ild1 eX12_freshOf_33 ?_
  refine g_iald rfl (Nat.le_of_ble_eq_true rfl) (vp_in_nI (n := k) (N := 4) hk (by decide)) eX12_freshOf_34 ?_
  refine g_isub eX12_freshOf_35 ?_
  refine g_i2l eX12_freshOf_36 ?_
  refine g_lst6 rfl (Nat.le_of_ble_eq_true rfl) eX12_freshOf_37 ?_
  refine g_ald0 eX12_freshOf_39 ?_
  refine g_ild1 eX12_freshOf_40 ?_
  refine g_lld4 eX12_freshOf_41 ?_
  refine g_lld6 eX12_freshOf_43 ?_
  refine g_ild2 eX12_freshOf_45 ?_
  rw [hc]
  refine g_callVl (ci := 11) (w_freshC _ k hk ho ht _ _ m0 (by rw [tl, hr]; omega) (by rw [tl, e3]; omega) hm) rfl (Nat.le_of_ble_eq_true rfl) (Nat.le_of_ble_eq_true rfl) rfl cv_X12_404 eX12_freshOf_46 ⟨Nat.le_of_ble_eq_true rfl, Nat.le_of_ble_eq_true rfl⟩ rfl rfl (Nat.le_of_ble_eq_true rfl) (fun z2 st hz2 => ?_)
  obtain ⟨rfl, hz2⟩ := hz2
  exact g_lret rfl eX12_freshOf_49 ⟨_, rfl, ⟨rfl, by rw [hz2, tl, tl, hr, e3]; rfl⟩⟩
/-- behind seals -/
def selM (st : St) (n : Nat) (k : Int32) (c b : Int64) (d : Int32) : St := sI (sI (sL (sL (sI st 67 n k) 68 n c) 69 n b) 70 n d) 31 58 (nI (n + 1))
theorem w_seals (st : St) (n : Nat) (hn : st.1 31 58 = nI n) (h : n < 60) (k d : Int32) (c b : Int64) : Mi l D cy 1 YX12_seals [.ref 31, .int k, .long c, .long b, .int d] st (fun r u => r = nI n ∧ ∃ b9 : Int64, b9.toInt = min 1000000 b.toInt ∧ u = selM st n k c b9 d) := by
  have hc : (nI n).toNatClampNeg = n := nI_clamp (by omega)
  have hv : ∀ z, z = 60 → vp_in (nI n) z := fun z e => by subst e; exact vp_in_nI h (by decide)
  refine M.ofG [some (.ref 31), some (.int k), some (.long c), none, some (.long b), none, some (.int d)] (by decide) (Nat.le_of_ble_eq_true rfl) rfl ?_
  intro xp xe xs xm xa xb xme xc xad xA
  refine g_ald0 eX12_seals_0 ?_
  refine g_getR (ci := 11) (j := 59) rfl (Nat.le_of_ble_eq_true rfl) (Nat.le_of_ble_eq_true rfl) (Nat.le_of_ble_eq_true rfl) rfl rfl fl_X12_122 eX12_seals_1 ?_
  refine g_ald0 eX12_seals_4 ?_
  refine g_getI (ci := 11) (j := 58) rfl (Nat.le_of_ble_eq_true rfl) (Nat.le_of_ble_eq_true rfl) (Nat.le_of_ble_eq_true rfl) rfl fl_X12_408 eX12_seals_5 ?_
  refine g_ild1 eX12_seals_8 ?_
  refine g_iast rfl (Nat.le_of_ble_eq_true rfl) (by rw [hn]; exact hv _ rfl) eX12_seals_9 ?_
  rw [hn, hc]
  refine g_ald0 eX12_seals_10 ?_
  refine g_getR (ci := 11) (j := 60) rfl (Nat.le_of_ble_eq_true rfl) (Nat.le_of_ble_eq_true rfl) (Nat.le_of_ble_eq_true rfl) rfl rfl fl_X12_125 eX12_seals_11 ?_
  refine g_ald0 eX12_seals_14 ?_
  refine g_getI (ci := 11) (j := 58) rfl (Nat.le_of_ble_eq_true rfl) (Nat.le_of_ble_eq_true rfl) (Nat.le_of_ble_eq_true rfl) rfl fl_X12_408 eX12_seals_15 ?_
  refine g_lld2 eX12_seals_18 ?_
  refine g_last rfl (Nat.le_of_ble_eq_true rfl) (by rw [sI_1, if_neg (by omega), hn]; exact hv _ rfl) eX12_seals_19 ?_
  rw [show (sI st 67 n k).1 31 58 = nI n by rw [sI_1, if_neg (by omega), hn], hc]
  refine g_ald0 eX12_seals_20 ?_
  refine g_getR (ci := 11) (j := 61) rfl (Nat.le_of_ble_eq_true rfl) (Nat.le_of_ble_eq_true rfl) (Nat.le_of_ble_eq_true rfl) rfl rfl fl_X12_128 eX12_seals_21 ?_
  refine g_ald0 eX12_seals_24 ?_
  refine g_getI (ci := 11) (j := 58) rfl (Nat.le_of_ble_eq_true rfl) (Nat.le_of_ble_eq_true rfl) (Nat.le_of_ble_eq_true rfl) rfl fl_X12_408 eX12_seals_25 ?_
  refine g_lld4 eX12_seals_28 ?_
  rw [show (sL (sI st 67 n k) 68 n c).1 31 58 = nI n by rw [sL_1, sI_1, if_neg (by omega), hn]]
  refine g_callSl (w_held _ b) cs_X12_411 eX12_seals_30 ⟨Nat.le_of_ble_eq_true rfl, Nat.le_of_ble_eq_true rfl⟩ rfl rfl (Nat.le_of_ble_eq_true rfl) (fun b9 u hb9 => ?_)
  obtain ⟨rfl, hb9⟩ := hb9
  refine g_last rfl (Nat.le_of_ble_eq_true rfl) (hv _ rfl) eX12_seals_33 ?_
  rw [hc]
  refine g_ald0 eX12_seals_34 ?_
  refine g_getR (ci := 11) (j := 62) rfl (Nat.le_of_ble_eq_true rfl) (Nat.le_of_ble_eq_true rfl) (Nat.le_of_ble_eq_true rfl) rfl rfl fl_X12_131 eX12_seals_35 ?_
  refine g_ald0 eX12_seals_38 ?_
  refine g_getI (ci := 11) (j := 58) rfl (Nat.le_of_ble_eq_true rfl) (Nat.le_of_ble_eq_true rfl) (Nat.le_of_ble_eq_true rfl) rfl fl_X12_408 eX12_seals_39 ?_
  refine g_ild6 eX12_seals_42 ?_
  refine g_iast rfl (Nat.le_of_ble_eq_true rfl) (by rw [sL_1, sL_1, sI_1, if_neg (by omega), hn]; exact hv _ rfl) eX12_seals_44 ?_
  rw [show (sL (sL (sI st 67 n k) 68 n c) 69 n b9).1 31 58 = nI n by rw [sL_1, sL_1, sI_1, if_neg (by omega), hn], hc]
  refine g_ald0 eX12_seals_45 ?_
  refine g_dup rfl eX12_seals_46 ?_
  refine g_getI (ci := 11) (j := 58) rfl (Nat.le_of_ble_eq_true rfl) (Nat.le_of_ble_eq_true rfl) (Nat.le_of_ble_eq_true rfl) rfl fl_X12_408 eX12_seals_47 ?_
  refine g_iconst (v := 1) (by decide) eX12_seals_50 ?_
  refine g_iadd eX12_seals_51 ?_
  refine g_putI (ci := 11) (j := 58) rfl rfl (Nat.le_of_ble_eq_true rfl) (Nat.le_of_ble_eq_true rfl) (Nat.le_of_ble_eq_true rfl) rfl fl_X12_408 eX12_seals_52 ?_
  refine g_ald0 eX12_seals_55 ?_
  refine g_getI (ci := 11) (j := 58) rfl (Nat.le_of_ble_eq_true rfl) (Nat.le_of_ble_eq_true rfl) (Nat.le_of_ble_eq_true rfl) rfl fl_X12_408 eX12_seals_56 ?_
  refine g_iconst (v := 1) (by decide) eX12_seals_59 ?_
  refine g_isub eX12_seals_60 ?_
  refine g_iret rfl eX12_seals_61 ⟨_, rfl, ?_⟩
  try dsimp only
  have e5 : (sI (sL (sL (sI st 67 n k) 68 n c) 69 n b9) 70 n d).1 31 58 = nI n := by rw [sI_1, if_neg (by omega), sL_1, sL_1, sI_1, if_neg (by omega), hn]
  rw [e5, nI_1, sI_1, if_pos ⟨rfl, rfl⟩]
  exact ⟨nI_pred n, b9, hb9, rfl⟩
end MODA
