/-! SealedSums$Program: program q at 95 + 5 q; kinds 96, firsts 97, seconds 98, outs 99 (+ 5 q); ins, works, outs are its ints 4, 5, 6 -/
section PROG
variable {l : Launch} {D : va_G} {cy : Nat → ClassId}
theorem m_codeOfIn (st : St) (x : Int32) : Mi l D cy 0 YX7_codeOfIn [.int x] st (fun r u => u = st ∧ r = 40 + x) := by
  refine M.ofG [some (.int x)] (by decide) (Nat.le_of_ble_eq_true rfl) rfl ?_
  intro xp xe xs xm xa xb xme xc xad xA
  refine g_bipush (v := 40) (by decide) eX7_codeOfIn_0 ?_
  refine g_ild0 eX7_codeOfIn_2 ?_
  refine g_iadd eX7_codeOfIn_3 ?_
  refine g_iret rfl eX7_codeOfIn_4 ⟨_, rfl, ?_⟩
  try dsimp only
  exact ⟨rfl, rfl⟩
theorem m_codeOfOpen (st : St) (x : Int32) : Mi l D cy 0 YX7_codeOfOpen [.int x] st (fun r u => u = st ∧ r = -1 - x) := by
  refine M.ofG [some (.int x)] (by decide) (Nat.le_of_ble_eq_true rfl) rfl ?_
  intro xp xe xs xm xa xb xme xc xad xA
  refine g_iconst (v := (-1)) (by decide) eX7_codeOfOpen_0 ?_
  refine g_ild0 eX7_codeOfOpen_1 ?_
  refine g_isub eX7_codeOfOpen_2 ?_
  refine g_iret rfl eX7_codeOfOpen_3 ⟨_, rfl, ?_⟩
  try dsimp only
  exact ⟨rfl, rfl⟩
theorem m_isOpen (st : St) (x : Int32) : Mi l D cy 0 YX7_isOpen [.int x] st (fun r u => u = st ∧ r = b2 (x.toInt < 0)) := by
  refine M.ofG [some (.int x)] (by decide) (Nat.le_of_ble_eq_true rfl) rfl ?_
  intro xp xe xs xm xa xb xme xc xad xA
  refine g_ild0 eX7_isOpen_0 ?_
  refine g_if_ge eX7_isOpen_1 (fun hb1 => ?_) (fun hb1 => ?_)
  · try simp only [fa_lt, fa_le, fa_eq, Int32.reduceToInt] at hb1
    refine g_iconst (v := 0) (by decide) eX7_isOpen_8 ?_
    refine g_zret (ty := .boolean) rfl (by first | rfl | assumption) eX7_isOpen_9 ⟨_, rfl, ?_⟩
    try dsimp only
    first | exact ⟨rfl, b2_t (by omega)⟩ | exact ⟨rfl, b2_f (by omega)⟩
  · try simp only [fa_lt, fa_le, fa_eq, Int32.reduceToInt] at hb1
    refine g_iconst (v := 1) (by decide) eX7_isOpen_4 ?_
    refine g_goto eX7_isOpen_5 ?_
    refine g_zret (ty := .boolean) rfl (by first | rfl | assumption) eX7_isOpen_9 ⟨_, rfl, ?_⟩
    try dsimp only
    first | exact ⟨rfl, b2_t (by omega)⟩ | exact ⟨rfl, b2_f (by omega)⟩
theorem m_openNumber (st : St) (x : Int32) : Mi l D cy 0 YX7_openNumber [.int x] st (fun r u => u = st ∧ r = -1 - x) := by
  refine M.ofG [some (.int x)] (by decide) (Nat.le_of_ble_eq_true rfl) rfl ?_
  intro xp xe xs xm xa xb xme xc xad xA
  refine g_iconst (v := (-1)) (by decide) eX7_openNumber_0 ?_
  refine g_ild0 eX7_openNumber_1 ?_
  refine g_isub eX7_openNumber_2 ?_
  refine g_iret rfl eX7_openNumber_3 ⟨_, rfl, ?_⟩
  try dsimp only
  exact ⟨rfl, rfl⟩
theorem b2_eq0 {P : Prop} [Decidable P] : b2 P = 0 ↔ ¬ P := by
  unfold b2
  split
  · rename_i h; exact ⟨fun e => absurd e (by decide), fun e => absurd h e⟩
  · rename_i h; exact ⟨fun _ => h, fun _ => rfl⟩
theorem b2_ne0 {P : Prop} [Decidable P] : ¬ b2 P = 0 ↔ P := by
  rw [b2_eq0]
  exact Decidable.not_not
/-- a value's code as it is told -/
def toldF (c : Int) : Int := if c < 0 then -30 - (-1 - c) else if c < 40 then c else -10 - (c - 40)
theorem neg1_sub {x : Int32} (h : -2147483647 ≤ x.toInt) : (-1 - x).toInt = -1 - x.toInt := by
  have h1 : (-1 : Int32).toInt = -1 := rfl
  have h2 := fb_rng x
  rw [fb_subI] <;> rw [h1] <;> omega
theorem m_toldCode (st : St) (x : Int32) (hx : -100 ≤ x.toInt ∧ x.toInt ≤ 100) : Mi l D cy 1 YX7_toldCode [.int x] st (fun r u => u = st ∧ r.toInt = toldF x.toInt) := by
  have e1 := neg1_sub (x := x) (by omega)
  have e2 : (-30 - (-1 - x)).toInt = -30 - (-1 - x.toInt) := by
    have h1 : (-30 : Int32).toInt = -30 := rfl
    rw [fb_subI] <;> rw [h1, e1] <;> omega
  have e3 : (x - 40).toInt = x.toInt - 40 := by
    have h1 : (40 : Int32).toInt = 40 := rfl
    rw [fb_subI] <;> rw [h1] <;> omega
  have e4 : (-10 - (x - 40)).toInt = -10 - (x.toInt - 40) := by
    have h1 : (-10 : Int32).toInt = -10 := rfl
    rw [fb_subI] <;> rw [h1, e3] <;> omega
  refine M.ofG [some (.int x)] (by decide) (Nat.le_of_ble_eq_true rfl) rfl ?_
  intro xp xe xs xm xa xb xme xc xad xA
  refine g_ild0 eX7_toldCode_0 ?_
  refine g_callSi (m_isOpen st x) cs_X7_34 eX7_toldCode_1 ⟨Nat.le_of_ble_eq_true rfl, Nat.le_of_ble_eq_true rfl⟩ rfl rfl (Nat.le_of_ble_eq_true rfl) (fun r u hr => ?_)
  obtain ⟨rfl, rfl⟩ := hr
  refine g_if_eq eX7_toldCode_4 (fun hb => ?_) (fun hb => ?_)
  · rw [b2_eq0] at hb
    refine g_ild0 eX7_toldCode_15 ?_
    refine g_bipush (v := 40) (by decide) eX7_toldCode_16 ?_
    refine g_icmp_ge eX7_toldCode_18 (fun hb18 => ?_) (fun hb18 => ?_)
    · try simp only [fa_lt, fa_le, fa_eq, Int32.reduceToInt] at hb18
      refine g_bipush (v := (-10)) (by decide) eX7_toldCode_25 ?_
      refine g_ild0 eX7_toldCode_27 ?_
      refine g_bipush (v := 40) (by decide) eX7_toldCode_28 ?_
      refine g_isub eX7_toldCode_30 ?_
      refine g_isub eX7_toldCode_31 ?_
      refine g_iret rfl eX7_toldCode_32 ⟨_, rfl, ?_⟩
      try dsimp only
      refine ⟨rfl, ?_⟩
      unfold toldF
      rw [if_neg hb]
      first | (rw [if_pos (by omega)]; done) | (rw [if_neg (by omega)]; exact e4)
    · try simp only [fa_lt, fa_le, fa_eq, Int32.reduceToInt] at hb18
      refine g_ild0 eX7_toldCode_21 ?_
      refine g_goto eX7_toldCode_22 ?_
      refine g_iret rfl eX7_toldCode_32 ⟨_, rfl, ?_⟩
      try dsimp only
      refine ⟨rfl, ?_⟩
      unfold toldF
      rw [if_neg hb]
      first | (rw [if_pos (by omega)]; done) | (rw [if_neg (by omega)]; exact e4)
  · rw [b2_ne0] at hb
    refine g_bipush (v := (-30)) (by decide) eX7_toldCode_7 ?_
    refine g_ild0 eX7_toldCode_9 ?_
    refine g_callSi (m_openNumber _ x) cs_X7_38 eX7_toldCode_10 ⟨Nat.le_of_ble_eq_true rfl, Nat.le_of_ble_eq_true rfl⟩ rfl rfl (Nat.le_of_ble_eq_true rfl) (fun r2 u2 hr2 => ?_)
    obtain ⟨rfl, rfl⟩ := hr2
    refine g_isub eX7_toldCode_13 ?_
    refine g_iret rfl eX7_toldCode_14 ⟨_, rfl, ?_⟩
    try dsimp only
    refine ⟨rfl, ?_⟩
    unfold toldF
    rw [if_pos hb]
    exact e2
/-- a sealed value's code ahead of work w -/
def cOK (w ins c : Int) : Prop := (0 ≤ c ∧ c < w) ∨ (40 ≤ c ∧ c < 40 + ins)
/-- one work keeps to what it may be -/
def wkOK (t ins : Int) (w : Nat) (k a b : Int) : Prop := 1 ≤ k ∧ k ≤ 5 ∧ cOK w ins a ∧ (k ≤ 3 → cOK w ins b) ∧ (k = 4 → 0 ≤ b ∧ b < t) ∧ (k = 5 → -t ≤ b ∧ b ≤ t)
def pgOK (t : Int) (st : St) (q : Nat) : Prop := 0 ≤ (st.1 (95 + 5 * q) 5).toInt ∧ (st.1 (95 + 5 * q) 5).toInt ≤ 40 ∧ 0 ≤ (st.1 (95 + 5 * q) 4).toInt ∧ (st.1 (95 + 5 * q) 4).toInt ≤ 6 ∧ 0 ≤ (st.1 (95 + 5 * q) 6).toInt ∧ (st.1 (95 + 5 * q) 6).toInt ≤ 4 ∧ (∀ w : Nat, (w : Int) < (st.1 (95 + 5 * q) 5).toInt → wkOK t ((st.1 (95 + 5 * q) 4).toInt) w ((st.1 (96 + 5 * q) w).toInt) ((st.1 (97 + 5 * q) w).toInt) ((st.1 (98 + 5 * q) w).toInt)) ∧
  ∀ k : Nat, (k : Int) < (st.1 (95 + 5 * q) 6).toInt → cOK ((st.1 (95 + 5 * q) 5).toInt) ((st.1 (95 + 5 * q) 4).toInt) ((st.1 (99 + 5 * q) k).toInt) ∨ (-t ≤ (st.1 (99 + 5 * q) k).toInt ∧ (st.1 (99 + 5 * q) k).toInt < 0)
theorem m_hasPlainSecond (st : St) {q : Nat} (hq : q < 4) (w : Nat) (hw : w < 40) : Mi l D cy 0 YX7_hasPlainSecond [.ref (95 + 5 * q), .int (nI w)] st (fun r u => u = st ∧ r = b2 ((st.1 (96 + 5 * q) w).toInt = 4 ∨ (st.1 (96 + 5 * q) w).toInt = 5)) := by
  have hc : (nI w).toNatClampNeg = w := nI_clamp (by omega)
  have hv : vp_in (nI w) (ln (96 + 5 * q)) := by rw [ln_pk hq]; exact vp_in_nI hw (by decide)
  refine M.ofG [some (.ref (95 + 5 * q)), some (.int (nI w))] (by decide) (Nat.le_of_ble_eq_true rfl) rfl ?_
  intro xp xe xs xm xa xb xme xc xad xA
  refine g_ald0 eX7_hasPlainSecond_0 ?_
  refine g_getR (ci := 6) (j := 0) (by first | rfl | exact kd_key hi | exact kd_sh hi | exact kd_ya hi | exact kd_pr hq | exact kd_pk hq | exact kd_pf hq | exact kd_ps hq | exact kd_po hq | exact kd_pr hq2 | exact kd_pk hq2 | exact kd_pf hq2 | exact kd_ps hq2 | exact kd_po hq2) (by first | decide | (unfold N0; omega)) (Nat.le_of_ble_eq_true rfl) (Nat.le_of_ble_eq_true rfl) rfl (by first | rfl | exact r_key4 hi | exact r_sh0 hi | exact r_p0 hq | exact r_p1 hq | exact r_p2 hq | exact r_p3 hq | exact r_p0 hq2 | exact r_p1 hq2 | exact r_p2 hq2 | exact r_p3 hq2) fl_X7_11 eX7_hasPlainSecond_1 ?_
  refine g_ild1 eX7_hasPlainSecond_4 ?_
  refine g_iald (by first | rfl | exact kd_key hi | exact kd_sh hi | exact kd_ya hi | exact kd_pr hq | exact kd_pk hq | exact kd_pf hq | exact kd_ps hq | exact kd_po hq | exact kd_pr hq2 | exact kd_pk hq2 | exact kd_pf hq2 | exact kd_ps hq2 | exact kd_po hq2) (by first | decide | (unfold N0; omega)) hv eX7_hasPlainSecond_5 ?_
  refine g_iconst (v := 4) (by decide) eX7_hasPlainSecond_6 ?_
  refine g_icmp_eq eX7_hasPlainSecond_7 (fun hb7 => ?_) (fun hb7 => ?_)
  · try simp only [fa_lt, fa_le, fa_eq, Int32.reduceToInt] at hb7
    rw [hc] at hb7
    refine g_iconst (v := 1) (by decide) eX7_hasPlainSecond_20 ?_
    refine g_goto eX7_hasPlainSecond_21 ?_
    refine g_zret (ty := .boolean) rfl (by first | rfl | assumption) eX7_hasPlainSecond_25 ⟨_, rfl, ?_⟩
    try dsimp only
    first | exact ⟨rfl, b2_t (by omega)⟩ | exact ⟨rfl, b2_f (by omega)⟩
  · try simp only [fa_lt, fa_le, fa_eq, Int32.reduceToInt] at hb7
    rw [hc] at hb7
    refine g_ald0 eX7_hasPlainSecond_10 ?_
    refine g_getR (ci := 6) (j := 0) (by first | rfl | exact kd_key hi | exact kd_sh hi | exact kd_ya hi | exact kd_pr hq | exact kd_pk hq | exact kd_pf hq | exact kd_ps hq | exact kd_po hq | exact kd_pr hq2 | exact kd_pk hq2 | exact kd_pf hq2 | exact kd_ps hq2 | exact kd_po hq2) (by first | decide | (unfold N0; omega)) (Nat.le_of_ble_eq_true rfl) (Nat.le_of_ble_eq_true rfl) rfl (by first | rfl | exact r_key4 hi | exact r_sh0 hi | exact r_p0 hq | exact r_p1 hq | exact r_p2 hq | exact r_p3 hq | exact r_p0 hq2 | exact r_p1 hq2 | exact r_p2 hq2 | exact r_p3 hq2) fl_X7_11 eX7_hasPlainSecond_11 ?_
    refine g_ild1 eX7_hasPlainSecond_14 ?_
    refine g_iald (by first | rfl | exact kd_key hi | exact kd_sh hi | exact kd_ya hi | exact kd_pr hq | exact kd_pk hq | exact kd_pf hq | exact kd_ps hq | exact kd_po hq | exact kd_pr hq2 | exact kd_pk hq2 | exact kd_pf hq2 | exact kd_ps hq2 | exact kd_po hq2) (by first | decide | (unfold N0; omega)) hv eX7_hasPlainSecond_15 ?_
    refine g_iconst (v := 5) (by decide) eX7_hasPlainSecond_16 ?_
    refine g_icmp_ne eX7_hasPlainSecond_17 (fun hb17 => ?_) (fun hb17 => ?_)
    · try simp only [fa_lt, fa_le, fa_eq, Int32.reduceToInt] at hb17
      rw [hc] at hb17
      refine g_iconst (v := 0) (by decide) eX7_hasPlainSecond_24 ?_
      refine g_zret (ty := .boolean) rfl (by first | rfl | assumption) eX7_hasPlainSecond_25 ⟨_, rfl, ?_⟩
      try dsimp only
      first | exact ⟨rfl, b2_t (by omega)⟩ | exact ⟨rfl, b2_f (by omega)⟩
    · try simp only [fa_lt, fa_le, fa_eq, Int32.reduceToInt] at hb17
      rw [hc] at hb17
      refine g_iconst (v := 1) (by decide) eX7_hasPlainSecond_20 ?_
      refine g_goto eX7_hasPlainSecond_21 ?_
      refine g_zret (ty := .boolean) rfl (by first | rfl | assumption) eX7_hasPlainSecond_25 ⟨_, rfl, ?_⟩
      try dsimp only
      first | exact ⟨rfl, b2_t (by omega)⟩ | exact ⟨rfl, b2_f (by omega)⟩
theorem m_toldSecond (st : St) {q : Nat} (hq : q < 4) (w : Nat) (hw : w < 40) (hb : -100 ≤ (st.1 (98 + 5 * q) w).toInt ∧ (st.1 (98 + 5 * q) w).toInt ≤ 100) : Mi l D cy 2 YX7_toldSecond [.ref (95 + 5 * q), .int (nI w)] st (fun r u => u = st ∧ r.toInt = if (st.1 (96 + 5 * q) w).toInt = 4 ∨ (st.1 (96 + 5 * q) w).toInt = 5 then (st.1 (98 + 5 * q) w).toInt else toldF ((st.1 (98 + 5 * q) w).toInt)) := by
  have hc : (nI w).toNatClampNeg = w := nI_clamp (by omega)
  have hv : vp_in (nI w) (ln (98 + 5 * q)) := by rw [ln_ps hq]; exact vp_in_nI hw (by decide)
  refine M.ofG [some (.ref (95 + 5 * q)), some (.int (nI w))] (by decide) (Nat.le_of_ble_eq_true rfl) rfl ?_
  intro xp xe xs xm xa xb xme xc xad xA
  refine g_ald0 eX7_toldSecond_0 ?_
  refine g_ild1 eX7_toldSecond_1 ?_
  refine g_callVi (ci := 6) (m_hasPlainSecond st hq w hw) (by first | rfl | exact kd_key hi | exact kd_sh hi | exact kd_ya hi | exact kd_pr hq | exact kd_pk hq | exact kd_pf hq | exact kd_ps hq | exact kd_po hq | exact kd_pr hq2 | exact kd_pk hq2 | exact kd_pf hq2 | exact kd_ps hq2 | exact kd_po hq2) (by first | decide | (unfold N0; omega)) (Nat.le_of_ble_eq_true rfl) rfl cv_X7_42 eX7_toldSecond_2 ⟨Nat.le_of_ble_eq_true rfl, Nat.le_of_ble_eq_true rfl⟩ rfl rfl (Nat.le_of_ble_eq_true rfl) (fun r u hr => ?_)
  obtain ⟨rfl, rfl⟩ := hr
  refine g_if_eq eX7_toldSecond_5 (fun h5 => ?_) (fun h5 => ?_)
  · rw [b2_eq0] at h5
    refine g_ald0 eX7_toldSecond_17 ?_
    refine g_getR (ci := 6) (j := 2) (by first | rfl | exact kd_key hi | exact kd_sh hi | exact kd_ya hi | exact kd_pr hq | exact kd_pk hq | exact kd_pf hq | exact kd_ps hq | exact kd_po hq | exact kd_pr hq2 | exact kd_pk hq2 | exact kd_pf hq2 | exact kd_ps hq2 | exact kd_po hq2) (by first | decide | (unfold N0; omega)) (Nat.le_of_ble_eq_true rfl) (Nat.le_of_ble_eq_true rfl) rfl (by first | rfl | exact r_key4 hi | exact r_sh0 hi | exact r_p0 hq | exact r_p1 hq | exact r_p2 hq | exact r_p3 hq | exact r_p0 hq2 | exact r_p1 hq2 | exact r_p2 hq2 | exact r_p3 hq2) fl_X7_18 eX7_toldSecond_18 ?_
    refine g_ild1 eX7_toldSecond_21 ?_
    refine g_iald (by first | rfl | exact kd_key hi | exact kd_sh hi | exact kd_ya hi | exact kd_pr hq | exact kd_pk hq | exact kd_pf hq | exact kd_ps hq | exact kd_po hq | exact kd_pr hq2 | exact kd_pk hq2 | exact kd_pf hq2 | exact kd_ps hq2 | exact kd_po hq2) (by first | decide | (unfold N0; omega)) hv eX7_toldSecond_22 ?_
    rw [hc]
    refine g_callSi (m_toldCode _ _ hb) cs_X7_45 eX7_toldSecond_23 ⟨Nat.le_of_ble_eq_true rfl, Nat.le_of_ble_eq_true rfl⟩ rfl rfl (Nat.le_of_ble_eq_true rfl) (fun r2 u2 hr2 => ?_)
    obtain ⟨rfl, hr2⟩ := hr2
    exact g_iret rfl eX7_toldSecond_26 ⟨_, rfl, ⟨rfl, by rw [if_neg h5]; exact hr2⟩⟩
  · rw [b2_ne0] at h5
    refine g_ald0 eX7_toldSecond_8 ?_
    refine g_getR (ci := 6) (j := 2) (by first | rfl | exact kd_key hi | exact kd_sh hi | exact kd_ya hi | exact kd_pr hq | exact kd_pk hq | exact kd_pf hq | exact kd_ps hq | exact kd_po hq | exact kd_pr hq2 | exact kd_pk hq2 | exact kd_pf hq2 | exact kd_ps hq2 | exact kd_po hq2) (by first | decide | (unfold N0; omega)) (Nat.le_of_ble_eq_true rfl) (Nat.le_of_ble_eq_true rfl) rfl (by first | rfl | exact r_key4 hi | exact r_sh0 hi | exact r_p0 hq | exact r_p1 hq | exact r_p2 hq | exact r_p3 hq | exact r_p0 hq2 | exact r_p1 hq2 | exact r_p2 hq2 | exact r_p3 hq2) fl_X7_18 eX7_toldSecond_9 ?_
    refine g_ild1 eX7_toldSecond_12 ?_
    refine g_iald (by first | rfl | exact kd_key hi | exact kd_sh hi | exact kd_ya hi | exact kd_pr hq | exact kd_pk hq | exact kd_pf hq | exact kd_ps hq | exact kd_po hq | exact kd_pr hq2 | exact kd_pk hq2 | exact kd_pf hq2 | exact kd_ps hq2 | exact kd_po hq2) (by first | decide | (unfold N0; omega)) hv eX7_toldSecond_13 ?_
    refine g_goto eX7_toldSecond_14 ?_
    rw [hc]
    exact g_iret rfl eX7_toldSecond_26 ⟨_, rfl, ⟨rfl, by rw [if_pos h5]⟩⟩
theorem m_startAfresh (st : St) {q : Nat} (hq : q < 4) (n : Int32) : Mv l D cy 0 YX7_startAfresh [.ref (95 + 5 * q), .int n] st (fun u => u = sI (sI (sI st (95 + 5 * q) 4 n) (95 + 5 * q) 5 0) (95 + 5 * q) 6 0) := by
  refine M.ofG [some (.ref (95 + 5 * q)), some (.int n)] (by decide) (Nat.le_of_ble_eq_true rfl) rfl ?_
  intro xp xe xs xm xa xb xme xc xad xA
  refine g_ald0 eX7_startAfresh_0 ?_
  refine g_ild1 eX7_startAfresh_1 ?_
  refine g_putI (ci := 6) (j := 4) rfl (by first | rfl | exact kd_key hi | exact kd_sh hi | exact kd_ya hi | exact kd_pr hq | exact kd_pk hq | exact kd_pf hq | exact kd_ps hq | exact kd_po hq | exact kd_pr hq2 | exact kd_pk hq2 | exact kd_pf hq2 | exact kd_ps hq2 | exact kd_po hq2) (by first | decide | (unfold N0; omega)) (Nat.le_of_ble_eq_true rfl) (Nat.le_of_ble_eq_true rfl) rfl fl_X7_24 eX7_startAfresh_2 ?_
  refine g_ald0 eX7_startAfresh_5 ?_
  refine g_iconst (v := 0) (by decide) eX7_startAfresh_6 ?_
  refine g_putI (ci := 6) (j := 5) rfl (by first | rfl | exact kd_key hi | exact kd_sh hi | exact kd_ya hi | exact kd_pr hq | exact kd_pk hq | exact kd_pf hq | exact kd_ps hq | exact kd_po hq | exact kd_pr hq2 | exact kd_pk hq2 | exact kd_pf hq2 | exact kd_ps hq2 | exact kd_po hq2) (by first | decide | (unfold N0; omega)) (Nat.le_of_ble_eq_true rfl) (Nat.le_of_ble_eq_true rfl) rfl fl_X7_28 eX7_startAfresh_7 ?_
  refine g_ald0 eX7_startAfresh_10 ?_
  refine g_iconst (v := 0) (by decide) eX7_startAfresh_11 ?_
  refine g_putI (ci := 6) (j := 6) rfl (by first | rfl | exact kd_key hi | exact kd_sh hi | exact kd_ya hi | exact kd_pr hq | exact kd_pk hq | exact kd_pf hq | exact kd_ps hq | exact kd_po hq | exact kd_pr hq2 | exact kd_pk hq2 | exact kd_pf hq2 | exact kd_ps hq2 | exact kd_po hq2) (by first | decide | (unfold N0; omega)) (Nat.le_of_ble_eq_true rfl) (Nat.le_of_ble_eq_true rfl) rfl fl_X7_31 eX7_startAfresh_12 ?_
  refine g_vret rfl eX7_startAfresh_15 ⟨rfl, ?_⟩
  try dsimp only
  try rfl
/-- behind addWork: beyond 40 only the count goes on -/
def adW (st : St) (q : Nat) (w : Nat) (k a b : Int32) : St := if w < 40 then sI (sI (sI (sI st (96 + 5 * q) w k) (97 + 5 * q) w a) (98 + 5 * q) w b) (95 + 5 * q) 5 (nI (w + 1)) else sI st (95 + 5 * q) 5 (nI (w + 1))
theorem m_addWork (st : St) {q : Nat} (hq : q < 4) (w : Nat) (hw : st.1 (95 + 5 * q) 5 = nI w) (h : w < 100000) (k a b : Int32) : Mi l D cy 0 YX7_addWork [.ref (95 + 5 * q), .int k, .int a, .int b] st (fun r u => r = nI w ∧ u = adW st q w k a b) := by
  have hc : (nI w).toNatClampNeg = w := nI_clamp (by omega)
  have ht : (nI w).toInt = w := nI_toInt (by omega)
  have n1 : ∀ z : Nat, 95 + 5 * q = 96 + 5 * q ↔ False := fun _ => ⟨fun e => by omega, False.elim⟩
  refine M.ofG [some (.ref (95 + 5 * q)), some (.int k), some (.int a), some (.int b)] (by decide) (Nat.le_of_ble_eq_true rfl) rfl ?_
  intro xp xe xs xm xa xb xme xc xad xA
  refine g_ald0 eX7_addWork_0 ?_
  refine g_getI (ci := 6) (j := 5) (by first | rfl | exact kd_key hi | exact kd_sh hi | exact kd_ya hi | exact kd_pr hq | exact kd_pk hq | exact kd_pf hq | exact kd_ps hq | exact kd_po hq | exact kd_pr hq2 | exact kd_pk hq2 | exact kd_pf hq2 | exact kd_ps hq2 | exact kd_po hq2) (by first | decide | (unfold N0; omega)) (Nat.le_of_ble_eq_true rfl) (Nat.le_of_ble_eq_true rfl) rfl fl_X7_28 eX7_addWork_1 ?_
  refine g_bipush (v := 40) (by decide) eX7_addWork_4 ?_
  rw [hw]
  refine g_icmp_ge eX7_addWork_6 (fun hb => ?_) (fun hb => ?_)
  · simp only [fa_le, Int32.reduceToInt, ht] at hb
    refine g_ald0 eX7_addWork_39 ?_
    refine g_dup rfl eX7_addWork_40 ?_
    refine g_getI (ci := 6) (j := 5) (by first | rfl | exact kd_key hi | exact kd_sh hi | exact kd_ya hi | exact kd_pr hq | exact kd_pk hq | exact kd_pf hq | exact kd_ps hq | exact kd_po hq | exact kd_pr hq2 | exact kd_pk hq2 | exact kd_pf hq2 | exact kd_ps hq2 | exact kd_po hq2) (by first | decide | (unfold N0; omega)) (Nat.le_of_ble_eq_true rfl) (Nat.le_of_ble_eq_true rfl) rfl fl_X7_28 eX7_addWork_41 ?_
    refine g_iconst (v := 1) (by decide) eX7_addWork_44 ?_
    refine g_iadd eX7_addWork_45 ?_
    refine g_putI (ci := 6) (j := 5) rfl (by first | rfl | exact kd_key hi | exact kd_sh hi | exact kd_ya hi | exact kd_pr hq | exact kd_pk hq | exact kd_pf hq | exact kd_ps hq | exact kd_po hq | exact kd_pr hq2 | exact kd_pk hq2 | exact kd_pf hq2 | exact kd_ps hq2 | exact kd_po hq2) (by first | decide | (unfold N0; omega)) (Nat.le_of_ble_eq_true rfl) (Nat.le_of_ble_eq_true rfl) rfl fl_X7_28 eX7_addWork_46 ?_
    refine g_ald0 eX7_addWork_49 ?_
    refine g_getI (ci := 6) (j := 5) (by first | rfl | exact kd_key hi | exact kd_sh hi | exact kd_ya hi | exact kd_pr hq | exact kd_pk hq | exact kd_pf hq | exact kd_ps hq | exact kd_po hq | exact kd_pr hq2 | exact kd_pk hq2 | exact kd_pf hq2 | exact kd_ps hq2 | exact kd_po hq2) (by first | decide | (unfold N0; omega)) (Nat.le_of_ble_eq_true rfl) (Nat.le_of_ble_eq_true rfl) rfl fl_X7_28 eX7_addWork_50 ?_
    refine g_iconst (v := 1) (by decide) eX7_addWork_53 ?_
    refine g_isub eX7_addWork_54 ?_
    refine g_iret rfl eX7_addWork_55 ⟨_, rfl, ?_⟩
    try dsimp only
    simp only [sI_1, hw, and_self, if_true, nI_1]
    refine ⟨nI_pred w, ?_⟩
    unfold adW
    rw [if_neg (by omega)]
  · simp only [fa_le, Int32.reduceToInt, ht] at hb
    have hlt : w < 40 := by omega
    have d1 : ¬ (95 + 5 * q = 96 + 5 * q) := by omega
    have d2 : ¬ (95 + 5 * q = 97 + 5 * q) := by omega
    have d3 : ¬ (95 + 5 * q = 98 + 5 * q) := by omega
    refine g_ald0 eX7_addWork_9 ?_
    refine g_getR (ci := 6) (j := 0) (by first | rfl | exact kd_key hi | exact kd_sh hi | exact kd_ya hi | exact kd_pr hq | exact kd_pk hq | exact kd_pf hq | exact kd_ps hq | exact kd_po hq | exact kd_pr hq2 | exact kd_pk hq2 | exact kd_pf hq2 | exact kd_ps hq2 | exact kd_po hq2) (by first | decide | (unfold N0; omega)) (Nat.le_of_ble_eq_true rfl) (Nat.le_of_ble_eq_true rfl) rfl (by first | rfl | exact r_key4 hi | exact r_sh0 hi | exact r_p0 hq | exact r_p1 hq | exact r_p2 hq | exact r_p3 hq | exact r_p0 hq2 | exact r_p1 hq2 | exact r_p2 hq2 | exact r_p3 hq2) fl_X7_11 eX7_addWork_10 ?_
    refine g_ald0 eX7_addWork_13 ?_
    refine g_getI (ci := 6) (j := 5) (by first | rfl | exact kd_key hi | exact kd_sh hi | exact kd_ya hi | exact kd_pr hq | exact kd_pk hq | exact kd_pf hq | exact kd_ps hq | exact kd_po hq | exact kd_pr hq2 | exact kd_pk hq2 | exact kd_pf hq2 | exact kd_ps hq2 | exact kd_po hq2) (by first | decide | (unfold N0; omega)) (Nat.le_of_ble_eq_true rfl) (Nat.le_of_ble_eq_true rfl) rfl fl_X7_28 eX7_addWork_14 ?_
    refine g_ild1 eX7_addWork_17 ?_
    refine g_iast (by first | rfl | exact kd_key hi | exact kd_sh hi | exact kd_ya hi | exact kd_pr hq | exact kd_pk hq | exact kd_pf hq | exact kd_ps hq | exact kd_po hq | exact kd_pr hq2 | exact kd_pk hq2 | exact kd_pf hq2 | exact kd_ps hq2 | exact kd_po hq2) (by first | decide | (unfold N0; omega)) (by rw [hw, ln_pk hq]; exact vp_in_nI hlt (by decide)) eX7_addWork_18 ?_
    refine g_ald0 eX7_addWork_19 ?_
    refine g_getR (ci := 6) (j := 1) (by first | rfl | exact kd_key hi | exact kd_sh hi | exact kd_ya hi | exact kd_pr hq | exact kd_pk hq | exact kd_pf hq | exact kd_ps hq | exact kd_po hq | exact kd_pr hq2 | exact kd_pk hq2 | exact kd_pf hq2 | exact kd_ps hq2 | exact kd_po hq2) (by first | decide | (unfold N0; omega)) (Nat.le_of_ble_eq_true rfl) (Nat.le_of_ble_eq_true rfl) rfl (by first | rfl | exact r_key4 hi | exact r_sh0 hi | exact r_p0 hq | exact r_p1 hq | exact r_p2 hq | exact r_p3 hq | exact r_p0 hq2 | exact r_p1 hq2 | exact r_p2 hq2 | exact r_p3 hq2) fl_X7_15 eX7_addWork_20 ?_
    refine g_ald0 eX7_addWork_23 ?_
    refine g_getI (ci := 6) (j := 5) (by first | rfl | exact kd_key hi | exact kd_sh hi | exact kd_ya hi | exact kd_pr hq | exact kd_pk hq | exact kd_pf hq | exact kd_ps hq | exact kd_po hq | exact kd_pr hq2 | exact kd_pk hq2 | exact kd_pf hq2 | exact kd_ps hq2 | exact kd_po hq2) (by first | decide | (unfold N0; omega)) (Nat.le_of_ble_eq_true rfl) (Nat.le_of_ble_eq_true rfl) rfl fl_X7_28 eX7_addWork_24 ?_
    refine g_ild2 eX7_addWork_27 ?_
    refine g_iast (by first | rfl | exact kd_key hi | exact kd_sh hi | exact kd_ya hi | exact kd_pr hq | exact kd_pk hq | exact kd_pf hq | exact kd_ps hq | exact kd_po hq | exact kd_pr hq2 | exact kd_pk hq2 | exact kd_pf hq2 | exact kd_ps hq2 | exact kd_po hq2) (by first | decide | (unfold N0; omega)) (by simp only [sI_1, d1, false_and, if_false, hw, ln_pf hq]; exact vp_in_nI hlt (by decide)) eX7_addWork_28 ?_
    refine g_ald0 eX7_addWork_29 ?_
    refine g_getR (ci := 6) (j := 2) (by first | rfl | exact kd_key hi | exact kd_sh hi | exact kd_ya hi | exact kd_pr hq | exact kd_pk hq | exact kd_pf hq | exact kd_ps hq | exact kd_po hq | exact kd_pr hq2 | exact kd_pk hq2 | exact kd_pf hq2 | exact kd_ps hq2 | exact kd_po hq2) (by first | decide | (unfold N0; omega)) (Nat.le_of_ble_eq_true rfl) (Nat.le_of_ble_eq_true rfl) rfl (by first | rfl | exact r_key4 hi | exact r_sh0 hi | exact r_p0 hq | exact r_p1 hq | exact r_p2 hq | exact r_p3 hq | exact r_p0 hq2 | exact r_p1 hq2 | exact r_p2 hq2 | exact r_p3 hq2) fl_X7_18 eX7_addWork_30 ?_
    refine g_ald0 eX7_addWork_33 ?_
    refine g_getI (ci := 6) (j := 5) (by first | rfl | exact kd_key hi | exact kd_sh hi | exact kd_ya hi | exact kd_pr hq | exact kd_pk hq | exact kd_pf hq | exact kd_ps hq | exact kd_po hq | exact kd_pr hq2 | exact kd_pk hq2 | exact kd_pf hq2 | exact kd_ps hq2 | exact kd_po hq2) (by first | decide | (unfold N0; omega)) (Nat.le_of_ble_eq_true rfl) (Nat.le_of_ble_eq_true rfl) rfl fl_X7_28 eX7_addWork_34 ?_
    refine g_ild3 eX7_addWork_37 ?_
    refine g_iast (by first | rfl | exact kd_key hi | exact kd_sh hi | exact kd_ya hi | exact kd_pr hq | exact kd_pk hq | exact kd_pf hq | exact kd_ps hq | exact kd_po hq | exact kd_pr hq2 | exact kd_pk hq2 | exact kd_pf hq2 | exact kd_ps hq2 | exact kd_po hq2) (by first | decide | (unfold N0; omega)) (by simp only [sI_1, d1, d2, false_and, if_false, hw, ln_ps hq]; exact vp_in_nI hlt (by decide)) eX7_addWork_38 ?_
    refine g_ald0 eX7_addWork_39 ?_
    refine g_dup rfl eX7_addWork_40 ?_
    refine g_getI (ci := 6) (j := 5) (by first | rfl | exact kd_key hi | exact kd_sh hi | exact kd_ya hi | exact kd_pr hq | exact kd_pk hq | exact kd_pf hq | exact kd_ps hq | exact kd_po hq | exact kd_pr hq2 | exact kd_pk hq2 | exact kd_pf hq2 | exact kd_ps hq2 | exact kd_po hq2) (by first | decide | (unfold N0; omega)) (Nat.le_of_ble_eq_true rfl) (Nat.le_of_ble_eq_true rfl) rfl fl_X7_28 eX7_addWork_41 ?_
    refine g_iconst (v := 1) (by decide) eX7_addWork_44 ?_
    refine g_iadd eX7_addWork_45 ?_
    refine g_putI (ci := 6) (j := 5) rfl (by first | rfl | exact kd_key hi | exact kd_sh hi | exact kd_ya hi | exact kd_pr hq | exact kd_pk hq | exact kd_pf hq | exact kd_ps hq | exact kd_po hq | exact kd_pr hq2 | exact kd_pk hq2 | exact kd_pf hq2 | exact kd_ps hq2 | exact kd_po hq2) (by first | decide | (unfold N0; omega)) (Nat.le_of_ble_eq_true rfl) (Nat.le_of_ble_eq_true rfl) rfl fl_X7_28 eX7_addWork_46 ?_
    refine g_ald0 eX7_addWork_49 ?_
    refine g_getI (ci := 6) (j := 5) (by first | rfl | exact kd_key hi | exact kd_sh hi | exact kd_ya hi | exact kd_pr hq | exact kd_pk hq | exact kd_pf hq | exact kd_ps hq | exact kd_po hq | exact kd_pr hq2 | exact kd_pk hq2 | exact kd_pf hq2 | exact kd_ps hq2 | exact kd_po hq2) (by first | decide | (unfold N0; omega)) (Nat.le_of_ble_eq_true rfl) (Nat.le_of_ble_eq_true rfl) rfl fl_X7_28 eX7_addWork_50 ?_
    refine g_iconst (v := 1) (by decide) eX7_addWork_53 ?_
    refine g_isub eX7_addWork_54 ?_
    refine g_iret rfl eX7_addWork_55 ⟨_, rfl, ?_⟩
    try dsimp only
    simp only [sI_1, d1, d2, d3, false_and, if_false, hw, hc, and_self, if_true, nI_1]
    refine ⟨nI_pred w, ?_⟩
    unfold adW
    rw [if_pos hlt]
theorem m_addOut (st : St) {q : Nat} (hq : q < 4) (k : Nat) (hk : st.1 (95 + 5 * q) 6 = nI k) (h : k < 4) (v : Int32) : Mv l D cy 0 YX7_addOut [.ref (95 + 5 * q), .int v] st (fun u => u = sI (sI st (99 + 5 * q) k v) (95 + 5 * q) 6 (nI (k + 1))) := by
  have hc : (nI k).toNatClampNeg = k := nI_clamp (by omega)
  have ht : (nI k).toInt = k := nI_toInt (by omega)
  have d1 : ¬ (95 + 5 * q = 99 + 5 * q) := by omega
  refine M.ofG [some (.ref (95 + 5 * q)), some (.int v)] (by decide) (Nat.le_of_ble_eq_true rfl) rfl ?_
  intro xp xe xs xm xa xb xme xc xad xA
  refine g_ald0 eX7_addOut_0 ?_
  refine g_getI (ci := 6) (j := 6) (by first | rfl | exact kd_key hi | exact kd_sh hi | exact kd_ya hi | exact kd_pr hq | exact kd_pk hq | exact kd_pf hq | exact kd_ps hq | exact kd_po hq | exact kd_pr hq2 | exact kd_pk hq2 | exact kd_pf hq2 | exact kd_ps hq2 | exact kd_po hq2) (by first | decide | (unfold N0; omega)) (Nat.le_of_ble_eq_true rfl) (Nat.le_of_ble_eq_true rfl) rfl fl_X7_31 eX7_addOut_1 ?_
  refine g_iconst (v := 4) (by decide) eX7_addOut_4 ?_
  rw [hk]
  refine g_icmp_ge eX7_addOut_5 (fun hb => ?_) (fun hb => ?_)
  · simp only [fa_le, Int32.reduceToInt, ht] at hb
    exfalso
    omega
  · refine g_ald0 eX7_addOut_8 ?_
    refine g_getR (ci := 6) (j := 3) (by first | rfl | exact kd_key hi | exact kd_sh hi | exact kd_ya hi | exact kd_pr hq | exact kd_pk hq | exact kd_pf hq | exact kd_ps hq | exact kd_po hq | exact kd_pr hq2 | exact kd_pk hq2 | exact kd_pf hq2 | exact kd_ps hq2 | exact kd_po hq2) (by first | decide | (unfold N0; omega)) (Nat.le_of_ble_eq_true rfl) (Nat.le_of_ble_eq_true rfl) rfl (by first | rfl | exact r_key4 hi | exact r_sh0 hi | exact r_p0 hq | exact r_p1 hq | exact r_p2 hq | exact r_p3 hq | exact r_p0 hq2 | exact r_p1 hq2 | exact r_p2 hq2 | exact r_p3 hq2) fl_X7_21 eX7_addOut_9 ?_
    refine g_ald0 eX7_addOut_12 ?_
    refine g_getI (ci := 6) (j := 6) (by first | rfl | exact kd_key hi | exact kd_sh hi | exact kd_ya hi | exact kd_pr hq | exact kd_pk hq | exact kd_pf hq | exact kd_ps hq | exact kd_po hq | exact kd_pr hq2 | exact kd_pk hq2 | exact kd_pf hq2 | exact kd_ps hq2 | exact kd_po hq2) (by first | decide | (unfold N0; omega)) (Nat.le_of_ble_eq_true rfl) (Nat.le_of_ble_eq_true rfl) rfl fl_X7_31 eX7_addOut_13 ?_
    refine g_ild1 eX7_addOut_16 ?_
    refine g_iast (by first | rfl | exact kd_key hi | exact kd_sh hi | exact kd_ya hi | exact kd_pr hq | exact kd_pk hq | exact kd_pf hq | exact kd_ps hq | exact kd_po hq | exact kd_pr hq2 | exact kd_pk hq2 | exact kd_pf hq2 | exact kd_ps hq2 | exact kd_po hq2) (by first | decide | (unfold N0; omega)) (by rw [hk, ln_po hq]; exact vp_in_nI h (by decide)) eX7_addOut_17 ?_
    refine g_ald0 eX7_addOut_18 ?_
    refine g_dup rfl eX7_addOut_19 ?_
    refine g_getI (ci := 6) (j := 6) (by first | rfl | exact kd_key hi | exact kd_sh hi | exact kd_ya hi | exact kd_pr hq | exact kd_pk hq | exact kd_pf hq | exact kd_ps hq | exact kd_po hq | exact kd_pr hq2 | exact kd_pk hq2 | exact kd_pf hq2 | exact kd_ps hq2 | exact kd_po hq2) (by first | decide | (unfold N0; omega)) (Nat.le_of_ble_eq_true rfl) (Nat.le_of_ble_eq_true rfl) rfl fl_X7_31 eX7_addOut_20 ?_
    refine g_iconst (v := 1) (by decide) eX7_addOut_23 ?_
    refine g_iadd eX7_addOut_24 ?_
    refine g_putI (ci := 6) (j := 6) rfl (by first | rfl | exact kd_key hi | exact kd_sh hi | exact kd_ya hi | exact kd_pr hq | exact kd_pk hq | exact kd_pf hq | exact kd_ps hq | exact kd_po hq | exact kd_pr hq2 | exact kd_pk hq2 | exact kd_pf hq2 | exact kd_ps hq2 | exact kd_po hq2) (by first | decide | (unfold N0; omega)) (Nat.le_of_ble_eq_true rfl) (Nat.le_of_ble_eq_true rfl) rfl fl_X7_31 eX7_addOut_25 ?_
    refine g_vret rfl eX7_addOut_28 ⟨rfl, ?_⟩
    try dsimp only
    simp only [sI_1, d1, false_and, if_false, hk, hc, nI_1]
theorem shl_pow {m0 : Nat} (h : m0 < 31) : ((1 : Int32) <<< (nI m0 &&& 31)).toInt = 2 ^ m0 := by
  revert m0
  decide
theorem shr_pow (x : Int32) {m0 : Nat} (h : m0 < 32) : (x >>> (nI m0 &&& 31)).toInt = x.toInt / 2 ^ m0 := by
  have e : ∀ k : Nat, k < 32 → ((nI k &&& 31).toBitVec.smod 32).toNat = k := by decide
  rw [pk_shr x (nI m0 &&& 31) m0 (e m0 h), Int.shiftRight_eq_div_pow]
  norm_cast
/-- how many layings a program has -/
def layN (w : Int) : Int := 2 ^ (min w 12).toNat
theorem layN_pos (w : Int) : 0 < layN w := Int.pow_pos (by decide)
theorem layN_le (w : Int) : layN w ≤ 4096 := by
  unfold layN
  have h : (min w 12).toNat ≤ 12 := by omega
  generalize (min w 12).toNat = k at h
  revert k
  decide
theorem m_canLay (st : St) {q : Nat} (hq : q < 4) (hw : 0 ≤ (st.1 (95 + 5 * q) 5).toInt ∧ (st.1 (95 + 5 * q) 5).toInt ≤ 40) (x : Int32) : Mi l D cy 1 YX7_canLay [.ref (95 + 5 * q), .int x] st (fun r u => u = st ∧ r = b2 (0 ≤ x.toInt ∧ x.toInt < layN ((st.1 (95 + 5 * q) 5).toInt))) := by
  have hm : ((1 : Int32) <<< ((if (12 : Int32) < st.1 (95 + 5 * q) 5 then 12 else st.1 (95 + 5 * q) 5) &&& 31)).toInt = layN ((st.1 (95 + 5 * q) 5).toInt) := by
    have e : (if (12 : Int32) < st.1 (95 + 5 * q) 5 then 12 else st.1 (95 + 5 * q) 5) = nI (min ((st.1 (95 + 5 * q) 5).toInt) 12).toNat := by
      rw [fa_eq, nI_toInt (by omega)]
      have e12 : (12 : Int32).toInt = 12 := rfl
      split
      · rename_i hh
        rw [fa_lt, e12] at hh
        rw [e12]
        omega
      · rename_i hh
        rw [fa_lt, e12] at hh
        omega
    rw [e, shl_pow (by omega)]
    rfl
  refine M.ofG [some (.ref (95 + 5 * q)), some (.int x)] (by decide) (Nat.le_of_ble_eq_true rfl) rfl ?_
  intro xp xe xs xm xa xb xme xc xad xA
  refine g_ild1 eX7_canLay_0 ?_
  refine g_if_lt eX7_canLay_1 (fun hb1 => ?_) (fun hb1 => ?_)
  · try simp only [fa_lt, fa_le, fa_eq, Int32.reduceToInt] at hb1
    refine g_iconst (v := 0) (by decide) eX7_canLay_23 ?_
    refine g_zret (ty := .boolean) rfl (by first | rfl | assumption) eX7_canLay_24 ⟨_, rfl, ?_⟩
    try dsimp only
    first | exact ⟨rfl, b2_t (by omega)⟩ | exact ⟨rfl, b2_f (by omega)⟩
  · try simp only [fa_lt, fa_le, fa_eq, Int32.reduceToInt] at hb1
    refine g_ild1 eX7_canLay_4 ?_
    refine g_iconst (v := 1) (by decide) eX7_canLay_5 ?_
    refine g_ald0 eX7_canLay_6 ?_
    refine g_getI (ci := 6) (j := 5) (by first | rfl | exact kd_key hi | exact kd_sh hi | exact kd_ya hi | exact kd_pr hq | exact kd_pk hq | exact kd_pf hq | exact kd_ps hq | exact kd_po hq | exact kd_pr hq2 | exact kd_pk hq2 | exact kd_pf hq2 | exact kd_ps hq2 | exact kd_po hq2) (by first | decide | (unfold N0; omega)) (Nat.le_of_ble_eq_true rfl) (Nat.le_of_ble_eq_true rfl) rfl fl_X7_28 eX7_canLay_7 ?_
    refine g_bipush (v := 12) (by decide) eX7_canLay_10 ?_
    refine g_imin mw_X7_48 ⟨Nat.le_of_ble_eq_true rfl, Nat.le_of_ble_eq_true rfl⟩ (Nat.le_of_ble_eq_true rfl) eX7_canLay_12 ?_
    refine g_ishl eX7_canLay_15 ?_
    generalize ((1 : Int32) <<< ((if (12 : Int32) < st.1 (95 + 5 * q) 5 then 12 else st.1 (95 + 5 * q) 5) &&& 31)) = z at hm ⊢
    refine g_icmp_ge eX7_canLay_16 (fun hb16 => ?_) (fun hb16 => ?_)
    · try simp only [fa_lt, fa_le, fa_eq, Int32.reduceToInt] at hb16
      refine g_iconst (v := 0) (by decide) eX7_canLay_23 ?_
      refine g_zret (ty := .boolean) rfl (by first | rfl | assumption) eX7_canLay_24 ⟨_, rfl, ?_⟩
      try dsimp only
      first | exact ⟨rfl, b2_t (by omega)⟩ | exact ⟨rfl, b2_f (by omega)⟩
    · try simp only [fa_lt, fa_le, fa_eq, Int32.reduceToInt] at hb16
      refine g_iconst (v := 1) (by decide) eX7_canLay_19 ?_
      refine g_goto eX7_canLay_20 ?_
      refine g_zret (ty := .boolean) rfl (by first | rfl | assumption) eX7_canLay_24 ⟨_, rfl, ?_⟩
      try dsimp only
      first | exact ⟨rfl, b2_t (by omega)⟩ | exact ⟨rfl, b2_f (by omega)⟩
/-- work w is laid -/
abbrev laidF (x : Int) (w : Nat) : Prop := w < 12 ∧ x / 2 ^ w % 2 = 1
theorem m_isLaid (st : St) (x : Int32) (hx : 0 ≤ x.toInt) (w : Nat) (hw : w < 40) : Mi l D cy 0 YX7_isLaid [.int x, .int (nI w)] st (fun r u => u = st ∧ r = b2 (laidF x.toInt w)) := by
  have ht : (nI w).toInt = w := nI_toInt (by omega)
  refine M.ofG [some (.int x), some (.int (nI w))] (by decide) (Nat.le_of_ble_eq_true rfl) rfl ?_
  intro xp xe xs xm xa xb xme xc xad xA
  refine g_ild1 eX7_isLaid_0 ?_
  refine g_bipush (v := 12) (by decide) eX7_isLaid_1 ?_
  refine g_icmp_ge eX7_isLaid_3 (fun hb3 => ?_) (fun hb3 => ?_)
  · try simp only [fa_lt, fa_le, fa_eq, Int32.reduceToInt] at hb3
    refine g_iconst (v := 0) (by decide) eX7_isLaid_19 ?_
    refine g_zret (ty := .boolean) rfl (by first | rfl | assumption) eX7_isLaid_20 ⟨_, rfl, ?_⟩
    try dsimp only
    first | exact ⟨rfl, b2_t ⟨by omega, by omega⟩⟩ | exact ⟨rfl, b2_f (fun h => by have := h.1; have := h.2; omega)⟩
  · try simp only [fa_lt, fa_le, fa_eq, Int32.reduceToInt] at hb3
    have h1 : w < 12 := by omega
    have e1 := shr_pow x (m0 := w) (by omega)
    have h0 : 0 ≤ (x >>> (nI w &&& 31)).toInt := by rw [e1]; exact Int.ediv_nonneg hx (Int.le_of_lt (Int.pow_pos (by decide)))
    have e2 := bit0 _ h0
    rw [e1] at e2
    refine g_ild0 eX7_isLaid_6 ?_
    refine g_ild1 eX7_isLaid_7 ?_
    refine g_ishr eX7_isLaid_8 ?_
    refine g_iconst (v := 1) (by decide) eX7_isLaid_9 ?_
    refine g_iand eX7_isLaid_10 ?_
    refine g_iconst (v := 1) (by decide) eX7_isLaid_11 ?_
    refine g_icmp_ne eX7_isLaid_12 (fun hb12 => ?_) (fun hb12 => ?_)
    · try simp only [fa_lt, fa_le, fa_eq, Int32.reduceToInt] at hb12
      refine g_iconst (v := 0) (by decide) eX7_isLaid_19 ?_
      refine g_zret (ty := .boolean) rfl (by first | rfl | assumption) eX7_isLaid_20 ⟨_, rfl, ?_⟩
      try dsimp only
      first | exact ⟨rfl, b2_t ⟨by omega, by omega⟩⟩ | exact ⟨rfl, b2_f (fun h => by have := h.1; have := h.2; omega)⟩
    · try simp only [fa_lt, fa_le, fa_eq, Int32.reduceToInt] at hb12
      refine g_iconst (v := 1) (by decide) eX7_isLaid_15 ?_
      refine g_goto eX7_isLaid_16 ?_
      refine g_zret (ty := .boolean) rfl (by first | rfl | assumption) eX7_isLaid_20 ⟨_, rfl, ?_⟩
      try dsimp only
      first | exact ⟨rfl, b2_t ⟨by omega, by omega⟩⟩ | exact ⟨rfl, b2_f (fun h => by have := h.1; have := h.2; omega)⟩
/-- the other value of a work: a number, or what stands in a slot -/
abbrev secF (st : St) (q : Nat) (s w : Nat) : Int := if (st.1 (96 + 5 * q) w).toInt = 4 ∨ (st.1 (96 + 5 * q) w).toInt = 5 then (st.1 (98 + 5 * q) w).toInt else (st.1 s ((st.1 (98 + 5 * q) w).toInt).toNat).toInt
theorem m_resultOf (st : St) {q : Nat} (hq : q < 4) (w : Nat) (hw : w < 40) (ha : 0 ≤ (st.1 (97 + 5 * q) w).toInt ∧ (st.1 (97 + 5 * q) w).toInt < 46) (hb : ¬ ((st.1 (96 + 5 * q) w).toInt = 4 ∨ (st.1 (96 + 5 * q) w).toInt = 5) → 0 ≤ (st.1 (98 + 5 * q) w).toInt ∧ (st.1 (98 + 5 * q) w).toInt < 46) (n : Int32) (hn : 1 ≤ n.toInt) : Mi l D cy 2 YX7_resultOf [.ref (95 + 5 * q), .int (nI w), .ref 25, .int n] st (fun r u => u = st ∧ r.toInt = workF ((st.1 (96 + 5 * q) w).toInt) (st.1 25 ((st.1 (97 + 5 * q) w).toInt).toNat).toInt (secF st q 25 w) n.toInt) := by
  have hc : (nI w).toNatClampNeg = w := nI_clamp (by omega)
  have hv1 : vp_in (nI w) (ln (96 + 5 * q)) := by rw [ln_pk hq]; exact vp_in_nI hw (by decide)
  have hv2 : vp_in (nI w) (ln (97 + 5 * q)) := by rw [ln_pf hq]; exact vp_in_nI hw (by decide)
  have hv3 : vp_in (nI w) (ln (98 + 5 * q)) := by rw [ln_ps hq]; exact vp_in_nI hw (by decide)
  refine M.ofG [some (.ref (95 + 5 * q)), some (.int (nI w)), some (.ref 25), some (.int n), none] (by decide) (Nat.le_of_ble_eq_true rfl) rfl ?_
  intro xp xe xs xm xa xb xme xc xad xA
  have fin : ∀ z : Int32, z.toInt = secF st q 25 w → G xp l xe (rmd (2)) xs xm xa xb xme xc D cy xad xA (YX7_resultOf.2.1, YX7_resultOf.1.cls, YX7_resultOf.2.2.1, YX7_resultOf.2.2.2) (Pi (fun (r : Int32) (u : St) => u = st ∧ r.toInt = workF ((st.1 (96 + 5 * q) w).toInt) (st.1 25 ((st.1 (97 + 5 * q) w).toInt).toNat).toInt (secF st q 25 w) n.toInt)) 25 ([some (.ref (95 + 5 * q)), some (.int (nI w)), some (.ref 25), some (.int n), none]) ([.int z]) (st) := by
    intro z hz
    refine g_ist4 rfl (Nat.le_of_ble_eq_true rfl) eX7_resultOf_25 ?_
    refine g_ald0 eX7_resultOf_27 ?_
    refine g_getR (ci := 6) (j := 0) (by first | rfl | exact kd_key hi | exact kd_sh hi | exact kd_ya hi | exact kd_pr hq | exact kd_pk hq | exact kd_pf hq | exact kd_ps hq | exact kd_po hq | exact kd_pr hq2 | exact kd_pk hq2 | exact kd_pf hq2 | exact kd_ps hq2 | exact kd_po hq2) (by first | decide | (unfold N0; omega)) (Nat.le_of_ble_eq_true rfl) (Nat.le_of_ble_eq_true rfl) rfl (by first | rfl | exact r_key4 hi | exact r_sh0 hi | exact r_p0 hq | exact r_p1 hq | exact r_p2 hq | exact r_p3 hq | exact r_p0 hq2 | exact r_p1 hq2 | exact r_p2 hq2 | exact r_p3 hq2) fl_X7_11 eX7_resultOf_28 ?_
    refine g_ild1 eX7_resultOf_31 ?_
    refine g_iald (by first | rfl | exact kd_key hi | exact kd_sh hi | exact kd_ya hi | exact kd_pr hq | exact kd_pk hq | exact kd_pf hq | exact kd_ps hq | exact kd_po hq | exact kd_pr hq2 | exact kd_pk hq2 | exact kd_pf hq2 | exact kd_ps hq2 | exact kd_po hq2) (by first | decide | (unfold N0; omega)) hv1 eX7_resultOf_32 ?_
    refine g_ald2 eX7_resultOf_33 ?_
    refine g_ald0 eX7_resultOf_34 ?_
    refine g_getR (ci := 6) (j := 1) (by first | rfl | exact kd_key hi | exact kd_sh hi | exact kd_ya hi | exact kd_pr hq | exact kd_pk hq | exact kd_pf hq | exact kd_ps hq | exact kd_po hq | exact kd_pr hq2 | exact kd_pk hq2 | exact kd_pf hq2 | exact kd_ps hq2 | exact kd_po hq2) (by first | decide | (unfold N0; omega)) (Nat.le_of_ble_eq_true rfl) (Nat.le_of_ble_eq_true rfl) rfl (by first | rfl | exact r_key4 hi | exact r_sh0 hi | exact r_p0 hq | exact r_p1 hq | exact r_p2 hq | exact r_p3 hq | exact r_p0 hq2 | exact r_p1 hq2 | exact r_p2 hq2 | exact r_p3 hq2) fl_X7_15 eX7_resultOf_35 ?_
    refine g_ild1 eX7_resultOf_38 ?_
    refine g_iald (by first | rfl | exact kd_key hi | exact kd_sh hi | exact kd_ya hi | exact kd_pr hq | exact kd_pk hq | exact kd_pf hq | exact kd_ps hq | exact kd_po hq | exact kd_pr hq2 | exact kd_pk hq2 | exact kd_pf hq2 | exact kd_ps hq2 | exact kd_po hq2) (by first | decide | (unfold N0; omega)) hv2 eX7_resultOf_39 ?_
    refine g_iald (by first | rfl | exact kd_key hi | exact kd_sh hi | exact kd_ya hi | exact kd_pr hq | exact kd_pk hq | exact kd_pf hq | exact kd_ps hq | exact kd_po hq | exact kd_pr hq2 | exact kd_pk hq2 | exact kd_pf hq2 | exact kd_ps hq2 | exact kd_po hq2) (by first | decide | (unfold N0; omega)) (by rw [hc]; exact vin ha.1 ha.2) eX7_resultOf_40 ?_
    refine g_ild4 eX7_resultOf_41 ?_
    refine g_ild3 eX7_resultOf_43 ?_
    rw [hc]
    refine g_callSi (m_worked st _ _ z n hn) cs_X7_62 eX7_resultOf_44 ⟨Nat.le_of_ble_eq_true rfl, Nat.le_of_ble_eq_true rfl⟩ rfl rfl (Nat.le_of_ble_eq_true rfl) (fun r u hr => ?_)
    obtain ⟨rfl, hr⟩ := hr
    exact g_iret rfl eX7_resultOf_47 ⟨_, rfl, ⟨rfl, by rw [hr, hz]; rfl⟩⟩
  refine g_ald0 eX7_resultOf_0 ?_
  refine g_ild1 eX7_resultOf_1 ?_
  refine g_callVi (ci := 6) (m_hasPlainSecond st hq w hw) (by first | rfl | exact kd_key hi | exact kd_sh hi | exact kd_ya hi | exact kd_pr hq | exact kd_pk hq | exact kd_pf hq | exact kd_ps hq | exact kd_po hq | exact kd_pr hq2 | exact kd_pk hq2 | exact kd_pf hq2 | exact kd_ps hq2 | exact kd_po hq2) (by first | decide | (unfold N0; omega)) (Nat.le_of_ble_eq_true rfl) rfl cv_X7_42 eX7_resultOf_2 ⟨Nat.le_of_ble_eq_true rfl, Nat.le_of_ble_eq_true rfl⟩ rfl rfl (Nat.le_of_ble_eq_true rfl) (fun r u hr => ?_)
  obtain ⟨rfl, rfl⟩ := hr
  refine g_if_eq eX7_resultOf_5 (fun h5 => ?_) (fun h5 => ?_)
  · rw [b2_eq0] at h5
    refine g_ald2 eX7_resultOf_17 ?_
    refine g_ald0 eX7_resultOf_18 ?_
    refine g_getR (ci := 6) (j := 2) (by first | rfl | exact kd_key hi | exact kd_sh hi | exact kd_ya hi | exact kd_pr hq | exact kd_pk hq | exact kd_pf hq | exact kd_ps hq | exact kd_po hq | exact kd_pr hq2 | exact kd_pk hq2 | exact kd_pf hq2 | exact kd_ps hq2 | exact kd_po hq2) (by first | decide | (unfold N0; omega)) (Nat.le_of_ble_eq_true rfl) (Nat.le_of_ble_eq_true rfl) rfl (by first | rfl | exact r_key4 hi | exact r_sh0 hi | exact r_p0 hq | exact r_p1 hq | exact r_p2 hq | exact r_p3 hq | exact r_p0 hq2 | exact r_p1 hq2 | exact r_p2 hq2 | exact r_p3 hq2) fl_X7_18 eX7_resultOf_19 ?_
    refine g_ild1 eX7_resultOf_22 ?_
    refine g_iald (by first | rfl | exact kd_key hi | exact kd_sh hi | exact kd_ya hi | exact kd_pr hq | exact kd_pk hq | exact kd_pf hq | exact kd_ps hq | exact kd_po hq | exact kd_pr hq2 | exact kd_pk hq2 | exact kd_pf hq2 | exact kd_ps hq2 | exact kd_po hq2) (by first | decide | (unfold N0; omega)) hv3 eX7_resultOf_23 ?_
    refine g_iald (by first | rfl | exact kd_key hi | exact kd_sh hi | exact kd_ya hi | exact kd_pr hq | exact kd_pk hq | exact kd_pf hq | exact kd_ps hq | exact kd_po hq | exact kd_pr hq2 | exact kd_pk hq2 | exact kd_pf hq2 | exact kd_ps hq2 | exact kd_po hq2) (by first | decide | (unfold N0; omega)) (by rw [hc]; exact vin (hb h5).1 (hb h5).2) eX7_resultOf_24 ?_
    rw [hc]
    exact fin _ (by unfold secF; rw [if_neg h5] <;> rfl)
  · rw [b2_ne0] at h5
    refine g_ald0 eX7_resultOf_8 ?_
    refine g_getR (ci := 6) (j := 2) (by first | rfl | exact kd_key hi | exact kd_sh hi | exact kd_ya hi | exact kd_pr hq | exact kd_pk hq | exact kd_pf hq | exact kd_ps hq | exact kd_po hq | exact kd_pr hq2 | exact kd_pk hq2 | exact kd_pf hq2 | exact kd_ps hq2 | exact kd_po hq2) (by first | decide | (unfold N0; omega)) (Nat.le_of_ble_eq_true rfl) (Nat.le_of_ble_eq_true rfl) rfl (by first | rfl | exact r_key4 hi | exact r_sh0 hi | exact r_p0 hq | exact r_p1 hq | exact r_p2 hq | exact r_p3 hq | exact r_p0 hq2 | exact r_p1 hq2 | exact r_p2 hq2 | exact r_p3 hq2) fl_X7_18 eX7_resultOf_9 ?_
    refine g_ild1 eX7_resultOf_12 ?_
    refine g_iald (by first | rfl | exact kd_key hi | exact kd_sh hi | exact kd_ya hi | exact kd_pr hq | exact kd_pk hq | exact kd_pf hq | exact kd_ps hq | exact kd_po hq | exact kd_pr hq2 | exact kd_pk hq2 | exact kd_pf hq2 | exact kd_ps hq2 | exact kd_po hq2) (by first | decide | (unfold N0; omega)) hv3 eX7_resultOf_13 ?_
    refine g_goto eX7_resultOf_14 ?_
    rw [hc]
    exact fin _ (by unfold secF; rw [if_pos h5])
theorem m_boundOf (st : St) {q : Nat} (hq : q < 4) (w : Nat) (hw : w < 40) (ha : 0 ≤ (st.1 (97 + 5 * q) w).toInt ∧ (st.1 (97 + 5 * q) w).toInt < 46) (hb : ¬ ((st.1 (96 + 5 * q) w).toInt = 4 ∨ (st.1 (96 + 5 * q) w).toInt = 5) → 0 ≤ (st.1 (98 + 5 * q) w).toInt ∧ (st.1 (98 + 5 * q) w).toInt < 46) (h0 : 0 ≤ (st.1 26 ((st.1 (97 + 5 * q) w).toInt).toNat).toInt) : Mi l D cy 2 YX7_boundOf [.ref (95 + 5 * q), .int (nI w), .ref 26] st (fun r u => u = st ∧ r.toInt = boundF ((st.1 (96 + 5 * q) w).toInt) (st.1 26 ((st.1 (97 + 5 * q) w).toInt).toNat).toInt (secF st q 26 w)) := by
  have hc : (nI w).toNatClampNeg = w := nI_clamp (by omega)
  have hv1 : vp_in (nI w) (ln (96 + 5 * q)) := by rw [ln_pk hq]; exact vp_in_nI hw (by decide)
  have hv2 : vp_in (nI w) (ln (97 + 5 * q)) := by rw [ln_pf hq]; exact vp_in_nI hw (by decide)
  have hv3 : vp_in (nI w) (ln (98 + 5 * q)) := by rw [ln_ps hq]; exact vp_in_nI hw (by decide)
  refine M.ofG [some (.ref (95 + 5 * q)), some (.int (nI w)), some (.ref 26), none] (by decide) (Nat.le_of_ble_eq_true rfl) rfl ?_
  intro xp xe xs xm xa xb xme xc xad xA
  have fin : ∀ z : Int32, z.toInt = secF st q 26 w → G xp l xe (rmd (2)) xs xm xa xb xme xc D cy xad xA (YX7_boundOf.2.1, YX7_boundOf.1.cls, YX7_boundOf.2.2.1, YX7_boundOf.2.2.2) (Pi (fun (r : Int32) (u : St) => u = st ∧ r.toInt = boundF ((st.1 (96 + 5 * q) w).toInt) (st.1 26 ((st.1 (97 + 5 * q) w).toInt).toNat).toInt (secF st q 26 w))) 25 ([some (.ref (95 + 5 * q)), some (.int (nI w)), some (.ref 26), none]) ([.int z]) (st) := by
    intro z hz
    refine g_ist3 rfl (Nat.le_of_ble_eq_true rfl) eX7_boundOf_25 ?_
    refine g_ald0 eX7_boundOf_26 ?_
    refine g_getR (ci := 6) (j := 0) (by first | rfl | exact kd_key hi | exact kd_sh hi | exact kd_ya hi | exact kd_pr hq | exact kd_pk hq | exact kd_pf hq | exact kd_ps hq | exact kd_po hq | exact kd_pr hq2 | exact kd_pk hq2 | exact kd_pf hq2 | exact kd_ps hq2 | exact kd_po hq2) (by first | decide | (unfold N0; omega)) (Nat.le_of_ble_eq_true rfl) (Nat.le_of_ble_eq_true rfl) rfl (by first | rfl | exact r_key4 hi | exact r_sh0 hi | exact r_p0 hq | exact r_p1 hq | exact r_p2 hq | exact r_p3 hq | exact r_p0 hq2 | exact r_p1 hq2 | exact r_p2 hq2 | exact r_p3 hq2) fl_X7_11 eX7_boundOf_27 ?_
    refine g_ild1 eX7_boundOf_30 ?_
    refine g_iald (by first | rfl | exact kd_key hi | exact kd_sh hi | exact kd_ya hi | exact kd_pr hq | exact kd_pk hq | exact kd_pf hq | exact kd_ps hq | exact kd_po hq | exact kd_pr hq2 | exact kd_pk hq2 | exact kd_pf hq2 | exact kd_ps hq2 | exact kd_po hq2) (by first | decide | (unfold N0; omega)) hv1 eX7_boundOf_31 ?_
    refine g_ald2 eX7_boundOf_32 ?_
    refine g_ald0 eX7_boundOf_33 ?_
    refine g_getR (ci := 6) (j := 1) (by first | rfl | exact kd_key hi | exact kd_sh hi | exact kd_ya hi | exact kd_pr hq | exact kd_pk hq | exact kd_pf hq | exact kd_ps hq | exact kd_po hq | exact kd_pr hq2 | exact kd_pk hq2 | exact kd_pf hq2 | exact kd_ps hq2 | exact kd_po hq2) (by first | decide | (unfold N0; omega)) (Nat.le_of_ble_eq_true rfl) (Nat.le_of_ble_eq_true rfl) rfl (by first | rfl | exact r_key4 hi | exact r_sh0 hi | exact r_p0 hq | exact r_p1 hq | exact r_p2 hq | exact r_p3 hq | exact r_p0 hq2 | exact r_p1 hq2 | exact r_p2 hq2 | exact r_p3 hq2) fl_X7_15 eX7_boundOf_34 ?_
    refine g_ild1 eX7_boundOf_37 ?_
    refine g_iald (by first | rfl | exact kd_key hi | exact kd_sh hi | exact kd_ya hi | exact kd_pr hq | exact kd_pk hq | exact kd_pf hq | exact kd_ps hq | exact kd_po hq | exact kd_pr hq2 | exact kd_pk hq2 | exact kd_pf hq2 | exact kd_ps hq2 | exact kd_po hq2) (by first | decide | (unfold N0; omega)) hv2 eX7_boundOf_38 ?_
    refine g_iald (by first | rfl | exact kd_key hi | exact kd_sh hi | exact kd_ya hi | exact kd_pr hq | exact kd_pk hq | exact kd_pf hq | exact kd_ps hq | exact kd_po hq | exact kd_pr hq2 | exact kd_pk hq2 | exact kd_pf hq2 | exact kd_ps hq2 | exact kd_po hq2) (by first | decide | (unfold N0; omega)) (by rw [hc]; exact vin ha.1 ha.2) eX7_boundOf_39 ?_
    refine g_ild3 eX7_boundOf_40 ?_
    rw [hc]
    refine g_callSi (m_workedBound st _ _ z h0) cs_X7_68 eX7_boundOf_41 ⟨Nat.le_of_ble_eq_true rfl, Nat.le_of_ble_eq_true rfl⟩ rfl rfl (Nat.le_of_ble_eq_true rfl) (fun r u hr => ?_)
    obtain ⟨rfl, hr⟩ := hr
    exact g_iret rfl eX7_boundOf_44 ⟨_, rfl, ⟨rfl, by rw [hr, hz] <;> rfl⟩⟩
  refine g_ald0 eX7_boundOf_0 ?_
  refine g_ild1 eX7_boundOf_1 ?_
  refine g_callVi (ci := 6) (m_hasPlainSecond st hq w hw) (by first | rfl | exact kd_key hi | exact kd_sh hi | exact kd_ya hi | exact kd_pr hq | exact kd_pk hq | exact kd_pf hq | exact kd_ps hq | exact kd_po hq | exact kd_pr hq2 | exact kd_pk hq2 | exact kd_pf hq2 | exact kd_ps hq2 | exact kd_po hq2) (by first | decide | (unfold N0; omega)) (Nat.le_of_ble_eq_true rfl) rfl cv_X7_42 eX7_boundOf_2 ⟨Nat.le_of_ble_eq_true rfl, Nat.le_of_ble_eq_true rfl⟩ rfl rfl (Nat.le_of_ble_eq_true rfl) (fun r u hr => ?_)
  obtain ⟨rfl, rfl⟩ := hr
  refine g_if_eq eX7_boundOf_5 (fun h5 => ?_) (fun h5 => ?_)
  · rw [b2_eq0] at h5
    refine g_ald2 eX7_boundOf_17 ?_
    refine g_ald0 eX7_boundOf_18 ?_
    refine g_getR (ci := 6) (j := 2) (by first | rfl | exact kd_key hi | exact kd_sh hi | exact kd_ya hi | exact kd_pr hq | exact kd_pk hq | exact kd_pf hq | exact kd_ps hq | exact kd_po hq | exact kd_pr hq2 | exact kd_pk hq2 | exact kd_pf hq2 | exact kd_ps hq2 | exact kd_po hq2) (by first | decide | (unfold N0; omega)) (Nat.le_of_ble_eq_true rfl) (Nat.le_of_ble_eq_true rfl) rfl (by first | rfl | exact r_key4 hi | exact r_sh0 hi | exact r_p0 hq | exact r_p1 hq | exact r_p2 hq | exact r_p3 hq | exact r_p0 hq2 | exact r_p1 hq2 | exact r_p2 hq2 | exact r_p3 hq2) fl_X7_18 eX7_boundOf_19 ?_
    refine g_ild1 eX7_boundOf_22 ?_
    refine g_iald (by first | rfl | exact kd_key hi | exact kd_sh hi | exact kd_ya hi | exact kd_pr hq | exact kd_pk hq | exact kd_pf hq | exact kd_ps hq | exact kd_po hq | exact kd_pr hq2 | exact kd_pk hq2 | exact kd_pf hq2 | exact kd_ps hq2 | exact kd_po hq2) (by first | decide | (unfold N0; omega)) hv3 eX7_boundOf_23 ?_
    refine g_iald (by first | rfl | exact kd_key hi | exact kd_sh hi | exact kd_ya hi | exact kd_pr hq | exact kd_pk hq | exact kd_pf hq | exact kd_ps hq | exact kd_po hq | exact kd_pr hq2 | exact kd_pk hq2 | exact kd_pf hq2 | exact kd_ps hq2 | exact kd_po hq2) (by first | decide | (unfold N0; omega)) (by rw [hc]; exact vin (hb h5).1 (hb h5).2) eX7_boundOf_24 ?_
    rw [hc]
    exact fin _ (by unfold secF; rw [if_neg h5] <;> rfl)
  · rw [b2_ne0] at h5
    refine g_ald0 eX7_boundOf_8 ?_
    refine g_getR (ci := 6) (j := 2) (by first | rfl | exact kd_key hi | exact kd_sh hi | exact kd_ya hi | exact kd_pr hq | exact kd_pk hq | exact kd_pf hq | exact kd_ps hq | exact kd_po hq | exact kd_pr hq2 | exact kd_pk hq2 | exact kd_pf hq2 | exact kd_ps hq2 | exact kd_po hq2) (by first | decide | (unfold N0; omega)) (Nat.le_of_ble_eq_true rfl) (Nat.le_of_ble_eq_true rfl) rfl (by first | rfl | exact r_key4 hi | exact r_sh0 hi | exact r_p0 hq | exact r_p1 hq | exact r_p2 hq | exact r_p3 hq | exact r_p0 hq2 | exact r_p1 hq2 | exact r_p2 hq2 | exact r_p3 hq2) fl_X7_18 eX7_boundOf_9 ?_
    refine g_ild1 eX7_boundOf_12 ?_
    refine g_iald (by first | rfl | exact kd_key hi | exact kd_sh hi | exact kd_ya hi | exact kd_pr hq | exact kd_pk hq | exact kd_pf hq | exact kd_ps hq | exact kd_po hq | exact kd_pr hq2 | exact kd_pk hq2 | exact kd_pf hq2 | exact kd_ps hq2 | exact kd_po hq2) (by first | decide | (unfold N0; omega)) hv3 eX7_boundOf_13 ?_
    refine g_goto eX7_boundOf_14 ?_
    rw [hc]
    exact fin _ (by unfold secF; rw [if_pos h5])
end PROG
