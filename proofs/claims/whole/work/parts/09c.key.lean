/-! SealedSums$Key: key i lies at 83 + 3 i; p, q, b, alive are its ints 0 .. 3 -/
section KEY
variable {l : Launch} {D : va_G} {cy : Nat → ClassId}
/-- what a KEY's numbers keep to -/
def kOK (p q b : Int) : Prop := 101 ≤ p ∧ p ≤ 99999 ∧ 10 ≤ q ∧ q ≤ 1000 ∧ 0 ≤ b ∧ b ≤ 10
abbrev keyAt (st : St) (i : Nat) : Prop := kOK (st.1 (83 + 3 * i) 0).toInt (st.1 (83 + 3 * i) 1).toInt (st.1 (83 + 3 * i) 2).toInt
abbrev goodKey (p q b : Int) : Prop := 101 ≤ p ∧ p ≤ 99999 ∧ p % 2 = 1 ∧ p % 3 ≠ 0 ∧ p % 5 ≠ 0 ∧ p % 7 ≠ 0 ∧ p % 11 ≠ 0 ∧ p % 13 ≠ 0 ∧ 10 ≤ q ∧ q ≤ 1000 ∧ 0 ≤ b ∧ b ≤ 10
theorem remK {x z : Int32} {k : Int} (hz : z.toInt = k) (hk : 0 < k) (hx : 0 ≤ x.toInt) : (x - x / z * z).toInt = x.toInt % k := by
  subst hz
  rw [rem32 (by omega)]
  exact Int.tmod_eq_emod_of_nonneg hx
theorem m_canBe (st : St) (p0 q b : Int32) : Mi l D cy 0 YX2_canBe [.int p0, .int q, .int b] st (fun r u => u = st ∧ r = b2 (goodKey p0.toInt q.toInt b.toInt)) := by
  refine M.ofG [some (.int p0), some (.int q), some (.int b)] (by decide) (Nat.le_of_ble_eq_true rfl) rfl ?_
  intro xp xe xs xm xa xb xme xc xad xA
  refine g_ild0 eX2_canBe_0 ?_
  refine g_bipush (v := 101) (by decide) eX2_canBe_1 ?_
  refine g_icmp_lt eX2_canBe_3 (fun hb3 => ?_) (fun hb3 => ?_)
  · try simp only [fa_lt, fa_le, fa_eq, Int32.reduceToInt] at hb3
    refine g_iconst (v := 0) (by decide) eX2_canBe_79 ?_
    refine g_zret (ty := .boolean) rfl (by first | rfl | assumption) eX2_canBe_80 ⟨_, rfl, ?_⟩
    try dsimp only
    first | exact ⟨rfl, b2_t (by unfold goodKey; omega)⟩ | exact ⟨rfl, b2_f (by unfold goodKey; omega)⟩
  · try simp only [fa_lt, fa_le, fa_eq, Int32.reduceToInt] at hb3
    have h0 : 0 ≤ p0.toInt := by omega
    have e2 := remK (x := p0) (z := 2) (k := 2) rfl (by decide) h0
    have e3 := remK (x := p0) (z := 3) (k := 3) rfl (by decide) h0
    have e5 := remK (x := p0) (z := 5) (k := 5) rfl (by decide) h0
    have e7 := remK (x := p0) (z := 7) (k := 7) rfl (by decide) h0
    have e11 := remK (x := p0) (z := 11) (k := 11) rfl (by decide) h0
    have e13 := remK (x := p0) (z := 13) (k := 13) rfl (by decide) h0
    refine g_ild0 eX2_canBe_6 ?_
    refine g_ldc kc_X2_30 eX2_canBe_7 ?_
    refine g_icmp_gt eX2_canBe_9 (fun hb9 => ?_) (fun hb9 => ?_)
    · try simp only [fa_lt, fa_le, fa_eq, Int32.reduceToInt] at hb9
      refine g_iconst (v := 0) (by decide) eX2_canBe_79 ?_
      refine g_zret (ty := .boolean) rfl (by first | rfl | assumption) eX2_canBe_80 ⟨_, rfl, ?_⟩
      try dsimp only
      first | exact ⟨rfl, b2_t (by unfold goodKey; omega)⟩ | exact ⟨rfl, b2_f (by unfold goodKey; omega)⟩
    · try simp only [fa_lt, fa_le, fa_eq, Int32.reduceToInt] at hb9
      refine g_ild0 eX2_canBe_12 ?_
      refine g_iconst (v := 2) (by decide) eX2_canBe_13 ?_
      refine g_irem (by decide) eX2_canBe_14 ?_
      refine g_iconst (v := 1) (by decide) eX2_canBe_15 ?_
      refine g_icmp_ne eX2_canBe_16 (fun hb16 => ?_) (fun hb16 => ?_)
      · try simp only [fa_lt, fa_le, fa_eq, Int32.reduceToInt] at hb16
        refine g_iconst (v := 0) (by decide) eX2_canBe_79 ?_
        refine g_zret (ty := .boolean) rfl (by first | rfl | assumption) eX2_canBe_80 ⟨_, rfl, ?_⟩
        try dsimp only
        first | exact ⟨rfl, b2_t (by unfold goodKey; omega)⟩ | exact ⟨rfl, b2_f (by unfold goodKey; omega)⟩
      · try simp only [fa_lt, fa_le, fa_eq, Int32.reduceToInt] at hb16
        refine g_ild0 eX2_canBe_19 ?_
        refine g_iconst (v := 3) (by decide) eX2_canBe_20 ?_
        refine g_irem (by decide) eX2_canBe_21 ?_
        refine g_if_eq eX2_canBe_22 (fun hb22 => ?_) (fun hb22 => ?_)
        · try simp only [fa_lt, fa_le, fa_eq, Int32.reduceToInt] at hb22
          refine g_iconst (v := 0) (by decide) eX2_canBe_79 ?_
          refine g_zret (ty := .boolean) rfl (by first | rfl | assumption) eX2_canBe_80 ⟨_, rfl, ?_⟩
          try dsimp only
          first | exact ⟨rfl, b2_t (by unfold goodKey; omega)⟩ | exact ⟨rfl, b2_f (by unfold goodKey; omega)⟩
        · try simp only [fa_lt, fa_le, fa_eq, Int32.reduceToInt] at hb22
          refine g_ild0 eX2_canBe_25 ?_
          refine g_iconst (v := 5) (by decide) eX2_canBe_26 ?_
          refine g_irem (by decide) eX2_canBe_27 ?_
          refine g_if_eq eX2_canBe_28 (fun hb28 => ?_) (fun hb28 => ?_)
          · try simp only [fa_lt, fa_le, fa_eq, Int32.reduceToInt] at hb28
            refine g_iconst (v := 0) (by decide) eX2_canBe_79 ?_
            refine g_zret (ty := .boolean) rfl (by first | rfl | assumption) eX2_canBe_80 ⟨_, rfl, ?_⟩
            try dsimp only
            first | exact ⟨rfl, b2_t (by unfold goodKey; omega)⟩ | exact ⟨rfl, b2_f (by unfold goodKey; omega)⟩
          · try simp only [fa_lt, fa_le, fa_eq, Int32.reduceToInt] at hb28
            refine g_ild0 eX2_canBe_31 ?_
            refine g_bipush (v := 7) (by decide) eX2_canBe_32 ?_
            refine g_irem (by decide) eX2_canBe_34 ?_
            refine g_if_eq eX2_canBe_35 (fun hb35 => ?_) (fun hb35 => ?_)
            · try simp only [fa_lt, fa_le, fa_eq, Int32.reduceToInt] at hb35
              refine g_iconst (v := 0) (by decide) eX2_canBe_79 ?_
              refine g_zret (ty := .boolean) rfl (by first | rfl | assumption) eX2_canBe_80 ⟨_, rfl, ?_⟩
              try dsimp only
              first | exact ⟨rfl, b2_t (by unfold goodKey; omega)⟩ | exact ⟨rfl, b2_f (by unfold goodKey; omega)⟩
            · try simp only [fa_lt, fa_le, fa_eq, Int32.reduceToInt] at hb35
              refine g_ild0 eX2_canBe_38 ?_
              refine g_bipush (v := 11) (by decide) eX2_canBe_39 ?_
              refine g_irem (by decide) eX2_canBe_41 ?_
              refine g_if_eq eX2_canBe_42 (fun hb42 => ?_) (fun hb42 => ?_)
              · try simp only [fa_lt, fa_le, fa_eq, Int32.reduceToInt] at hb42
                refine g_iconst (v := 0) (by decide) eX2_canBe_79 ?_
                refine g_zret (ty := .boolean) rfl (by first | rfl | assumption) eX2_canBe_80 ⟨_, rfl, ?_⟩
                try dsimp only
                first | exact ⟨rfl, b2_t (by unfold goodKey; omega)⟩ | exact ⟨rfl, b2_f (by unfold goodKey; omega)⟩
              · try simp only [fa_lt, fa_le, fa_eq, Int32.reduceToInt] at hb42
                refine g_ild0 eX2_canBe_45 ?_
                refine g_bipush (v := 13) (by decide) eX2_canBe_46 ?_
                refine g_irem (by decide) eX2_canBe_48 ?_
                refine g_if_eq eX2_canBe_49 (fun hb49 => ?_) (fun hb49 => ?_)
                · try simp only [fa_lt, fa_le, fa_eq, Int32.reduceToInt] at hb49
                  refine g_iconst (v := 0) (by decide) eX2_canBe_79 ?_
                  refine g_zret (ty := .boolean) rfl (by first | rfl | assumption) eX2_canBe_80 ⟨_, rfl, ?_⟩
                  try dsimp only
                  first | exact ⟨rfl, b2_t (by unfold goodKey; omega)⟩ | exact ⟨rfl, b2_f (by unfold goodKey; omega)⟩
                · try simp only [fa_lt, fa_le, fa_eq, Int32.reduceToInt] at hb49
                  refine g_ild1 eX2_canBe_52 ?_
                  refine g_bipush (v := 10) (by decide) eX2_canBe_53 ?_
                  refine g_icmp_lt eX2_canBe_55 (fun hb55 => ?_) (fun hb55 => ?_)
                  · try simp only [fa_lt, fa_le, fa_eq, Int32.reduceToInt] at hb55
                    refine g_iconst (v := 0) (by decide) eX2_canBe_79 ?_
                    refine g_zret (ty := .boolean) rfl (by first | rfl | assumption) eX2_canBe_80 ⟨_, rfl, ?_⟩
                    try dsimp only
                    first | exact ⟨rfl, b2_t (by unfold goodKey; omega)⟩ | exact ⟨rfl, b2_f (by unfold goodKey; omega)⟩
                  · try simp only [fa_lt, fa_le, fa_eq, Int32.reduceToInt] at hb55
                    refine g_ild1 eX2_canBe_58 ?_
                    refine g_sipush (v := 1000) (by decide) eX2_canBe_59 ?_
                    refine g_icmp_gt eX2_canBe_62 (fun hb62 => ?_) (fun hb62 => ?_)
                    · try simp only [fa_lt, fa_le, fa_eq, Int32.reduceToInt] at hb62
                      refine g_iconst (v := 0) (by decide) eX2_canBe_79 ?_
                      refine g_zret (ty := .boolean) rfl (by first | rfl | assumption) eX2_canBe_80 ⟨_, rfl, ?_⟩
                      try dsimp only
                      first | exact ⟨rfl, b2_t (by unfold goodKey; omega)⟩ | exact ⟨rfl, b2_f (by unfold goodKey; omega)⟩
                    · try simp only [fa_lt, fa_le, fa_eq, Int32.reduceToInt] at hb62
                      refine g_ild2 eX2_canBe_65 ?_
                      refine g_if_lt eX2_canBe_66 (fun hb66 => ?_) (fun hb66 => ?_)
                      · try simp only [fa_lt, fa_le, fa_eq, Int32.reduceToInt] at hb66
                        refine g_iconst (v := 0) (by decide) eX2_canBe_79 ?_
                        refine g_zret (ty := .boolean) rfl (by first | rfl | assumption) eX2_canBe_80 ⟨_, rfl, ?_⟩
                        try dsimp only
                        first | exact ⟨rfl, b2_t (by unfold goodKey; omega)⟩ | exact ⟨rfl, b2_f (by unfold goodKey; omega)⟩
                      · try simp only [fa_lt, fa_le, fa_eq, Int32.reduceToInt] at hb66
                        refine g_ild2 eX2_canBe_69 ?_
                        refine g_bipush (v := 10) (by decide) eX2_canBe_70 ?_
                        refine g_icmp_gt eX2_canBe_72 (fun hb72 => ?_) (fun hb72 => ?_)
                        · try simp only [fa_lt, fa_le, fa_eq, Int32.reduceToInt] at hb72
                          refine g_iconst (v := 0) (by decide) eX2_canBe_79 ?_
                          refine g_zret (ty := .boolean) rfl (by first | rfl | assumption) eX2_canBe_80 ⟨_, rfl, ?_⟩
                          try dsimp only
                          first | exact ⟨rfl, b2_t (by unfold goodKey; omega)⟩ | exact ⟨rfl, b2_f (by unfold goodKey; omega)⟩
                        · try simp only [fa_lt, fa_le, fa_eq, Int32.reduceToInt] at hb72
                          refine g_iconst (v := 1) (by decide) eX2_canBe_75 ?_
                          refine g_goto eX2_canBe_76 ?_
                          refine g_zret (ty := .boolean) rfl (by first | rfl | assumption) eX2_canBe_80 ⟨_, rfl, ?_⟩
                          try dsimp only
                          first | exact ⟨rfl, b2_t (by unfold goodKey; omega)⟩ | exact ⟨rfl, b2_f (by unfold goodKey; omega)⟩
theorem m_becomes (st : St) {i : Nat} (hi : i < 4) (p0 q b : Int32) : Mv l D cy 0 YX2_becomes [.ref (83 + 3 * i), .int p0, .int q, .int b] st (fun u => u = sI (sI (sI (sI st (83 + 3 * i) 0 p0) (83 + 3 * i) 1 q) (83 + 3 * i) 2 b) (83 + 3 * i) 3 1) := by
  refine M.ofG [some (.ref (83 + 3 * i)), some (.int p0), some (.int q), some (.int b)] (by decide) (Nat.le_of_ble_eq_true rfl) rfl ?_
  intro xp xe xs xm xa xb xme xc xad xA
  refine g_ald0 eX2_becomes_0 ?_
  refine g_ild1 eX2_becomes_1 ?_
  refine g_putI (ci := 2) (j := 0) rfl (by first | rfl | exact kd_key hi | exact kd_sh hi | exact kd_ya hi | exact kd_pr hq | exact kd_pk hq | exact kd_pf hq | exact kd_ps hq | exact kd_po hq | exact kd_pr hq2 | exact kd_pk hq2 | exact kd_pf hq2 | exact kd_ps hq2 | exact kd_po hq2) (by first | decide | (unfold N0; omega)) (Nat.le_of_ble_eq_true rfl) (Nat.le_of_ble_eq_true rfl) rfl fl_X2_7 eX2_becomes_2 ?_
  refine g_ald0 eX2_becomes_5 ?_
  refine g_ild2 eX2_becomes_6 ?_
  refine g_putI (ci := 2) (j := 1) rfl (by first | rfl | exact kd_key hi | exact kd_sh hi | exact kd_ya hi | exact kd_pr hq | exact kd_pk hq | exact kd_pf hq | exact kd_ps hq | exact kd_po hq | exact kd_pr hq2 | exact kd_pk hq2 | exact kd_pf hq2 | exact kd_ps hq2 | exact kd_po hq2) (by first | decide | (unfold N0; omega)) (Nat.le_of_ble_eq_true rfl) (Nat.le_of_ble_eq_true rfl) rfl fl_X2_13 eX2_becomes_7 ?_
  refine g_ald0 eX2_becomes_10 ?_
  refine g_ild3 eX2_becomes_11 ?_
  refine g_putI (ci := 2) (j := 2) rfl (by first | rfl | exact kd_key hi | exact kd_sh hi | exact kd_ya hi | exact kd_pr hq | exact kd_pk hq | exact kd_pf hq | exact kd_ps hq | exact kd_po hq | exact kd_pr hq2 | exact kd_pk hq2 | exact kd_pf hq2 | exact kd_ps hq2 | exact kd_po hq2) (by first | decide | (unfold N0; omega)) (Nat.le_of_ble_eq_true rfl) (Nat.le_of_ble_eq_true rfl) rfl fl_X2_16 eX2_becomes_12 ?_
  refine g_ald0 eX2_becomes_15 ?_
  refine g_iconst (v := 1) (by decide) eX2_becomes_16 ?_
  refine g_putZ (ci := 2) (j := 3) rfl (by first | exact Or.inl rfl | exact Or.inr rfl) (by first | rfl | exact kd_key hi | exact kd_sh hi | exact kd_ya hi | exact kd_pr hq | exact kd_pk hq | exact kd_pf hq | exact kd_ps hq | exact kd_po hq | exact kd_pr hq2 | exact kd_pk hq2 | exact kd_pf hq2 | exact kd_ps hq2 | exact kd_po hq2) (by first | decide | (unfold N0; omega)) (Nat.le_of_ble_eq_true rfl) (Nat.le_of_ble_eq_true rfl) rfl fl_X2_19 eX2_becomes_17 ?_
  refine g_vret rfl eX2_becomes_20 ⟨rfl, ?_⟩
  try dsimp only
  try rfl
theorem pq_rng {p q b : Int} (h : kOK p q b) : 1010 ≤ p * q ∧ p * q ≤ 99999000 := by
  obtain ⟨h1, h2, h3, h4, -⟩ := h
  have a : 101 * 10 ≤ p * q := Int.mul_le_mul h1 h3 (by omega) (by omega)
  have b : p * q ≤ 99999 * 1000 := Int.mul_le_mul h2 h4 (by omega) (by omega)
  omega
theorem m_modulus (st : St) {i : Nat} (hi : i < 4) (hk : keyAt st i) : Mi l D cy 0 YX2_modulus [.ref (83 + 3 * i)] st (fun r u => u = st ∧ r.toInt = (st.1 (83 + 3 * i) 0).toInt * (st.1 (83 + 3 * i) 1).toInt) := by
  have h := pq_rng hk
  refine M.ofG [some (.ref (83 + 3 * i))] (by decide) (Nat.le_of_ble_eq_true rfl) rfl ?_
  intro xp xe xs xm xa xb xme xc xad xA
  refine g_ald0 eX2_modulus_0 ?_
  refine g_getI (ci := 2) (j := 0) (by first | rfl | exact kd_key hi | exact kd_sh hi | exact kd_ya hi | exact kd_pr hq | exact kd_pk hq | exact kd_pf hq | exact kd_ps hq | exact kd_po hq | exact kd_pr hq2 | exact kd_pk hq2 | exact kd_pf hq2 | exact kd_ps hq2 | exact kd_po hq2) (by first | decide | (unfold N0; omega)) (Nat.le_of_ble_eq_true rfl) (Nat.le_of_ble_eq_true rfl) rfl fl_X2_7 eX2_modulus_1 ?_
  refine g_ald0 eX2_modulus_4 ?_
  refine g_getI (ci := 2) (j := 1) (by first | rfl | exact kd_key hi | exact kd_sh hi | exact kd_ya hi | exact kd_pr hq | exact kd_pk hq | exact kd_pf hq | exact kd_ps hq | exact kd_po hq | exact kd_pr hq2 | exact kd_pk hq2 | exact kd_pf hq2 | exact kd_ps hq2 | exact kd_po hq2) (by first | decide | (unfold N0; omega)) (Nat.le_of_ble_eq_true rfl) (Nat.le_of_ble_eq_true rfl) rfl fl_X2_13 eX2_modulus_5 ?_
  refine g_imul eX2_modulus_8 ?_
  refine g_iret rfl eX2_modulus_9 ⟨_, rfl, ?_⟩
  try dsimp only
  exact ⟨rfl, fb_mulI (by omega) (by omega)⟩
theorem tb_rng {t b : Int} (ht : 2 ≤ t ∧ t ≤ 13) (hb : 0 ≤ b ∧ b ≤ 10) : 0 ≤ t * b ∧ t * b ≤ 130 := by
  have a : 0 ≤ t * b := Int.mul_nonneg (by omega) hb.1
  have c : t * b ≤ 13 * 10 := Int.mul_le_mul ht.2 hb.2 hb.1 (by omega)
  omega
theorem m_freshBound (st : St) {i : Nat} (hi : i < 4) (hk : keyAt st i) (t : Int32) (ht : 2 ≤ t.toInt ∧ t.toInt ≤ 13) : Mi l D cy 0 YX2_freshBound [.ref (83 + 3 * i), .int t] st (fun r u => u = st ∧ r.toInt = t.toInt * (st.1 (83 + 3 * i) 2).toInt + t.toInt - 1) := by
  have h := tb_rng ht hk.2.2.2.2
  have e1 : (t * st.1 (83 + 3 * i) 2).toInt = t.toInt * (st.1 (83 + 3 * i) 2).toInt := fb_mulI (by omega) (by omega)
  have e2 : (t * st.1 (83 + 3 * i) 2 + t).toInt = t.toInt * (st.1 (83 + 3 * i) 2).toInt + t.toInt := by rw [fb_addI] <;> rw [e1] <;> omega
  refine M.ofG [some (.ref (83 + 3 * i)), some (.int t)] (by decide) (Nat.le_of_ble_eq_true rfl) rfl ?_
  intro xp xe xs xm xa xb xme xc xad xA
  refine g_ild1 eX2_freshBound_0 ?_
  refine g_ald0 eX2_freshBound_1 ?_
  refine g_getI (ci := 2) (j := 2) (by first | rfl | exact kd_key hi | exact kd_sh hi | exact kd_ya hi | exact kd_pr hq | exact kd_pk hq | exact kd_pf hq | exact kd_ps hq | exact kd_po hq | exact kd_pr hq2 | exact kd_pk hq2 | exact kd_pf hq2 | exact kd_ps hq2 | exact kd_po hq2) (by first | decide | (unfold N0; omega)) (Nat.le_of_ble_eq_true rfl) (Nat.le_of_ble_eq_true rfl) rfl fl_X2_16 eX2_freshBound_2 ?_
  refine g_imul eX2_freshBound_5 ?_
  refine g_ild1 eX2_freshBound_6 ?_
  refine g_iadd eX2_freshBound_7 ?_
  refine g_iconst (v := 1) (by decide) eX2_freshBound_8 ?_
  refine g_isub eX2_freshBound_9 ?_
  refine g_iret rfl eX2_freshBound_10 ⟨_, rfl, ?_⟩
  try dsimp only
  refine ⟨rfl, ?_⟩
  rw [fb_subI] <;> rw [e2, o32] <;> omega
def maskF (p q t m r e : Int) : Int := (p * r + t * e + m) % (p * q)
theorem m_maskedC (st : St) {i : Nat} (hi : i < 4) (hk : keyAt st i) (t m0 r e0 : Int32) (ht : 2 ≤ t.toInt ∧ t.toInt ≤ 13) (hm : 0 ≤ m0.toInt ∧ m0.toInt < 13) (hr : 0 ≤ r.toInt ∧ r.toInt ≤ 1000) (he : -10 ≤ e0.toInt ∧ e0.toInt ≤ 10) : Mi l D cy 1 YX2_maskedC [.ref (83 + 3 * i), .int t, .int m0, .int r, .int e0] st (fun z u => u = st ∧ z.toInt = maskF (st.1 (83 + 3 * i) 0).toInt (st.1 (83 + 3 * i) 1).toInt t.toInt m0.toInt r.toInt e0.toInt) := by
  have h := pq_rng hk
  have hp : 0 ≤ (st.1 (83 + 3 * i) 0).toInt * r.toInt ∧ (st.1 (83 + 3 * i) 0).toInt * r.toInt ≤ 99999 * 1000 := ⟨Int.mul_nonneg (by have := hk.1; omega) hr.1, Int.mul_le_mul hk.2.1 hr.2 hr.1 (by omega)⟩
  have hte : -130 ≤ t.toInt * e0.toInt ∧ t.toInt * e0.toInt ≤ 130 := by
    have a : t.toInt * e0.toInt ≤ 13 * 10 := by
      by_cases hz : 0 ≤ e0.toInt
      · exact Int.mul_le_mul ht.2 he.2 hz (by omega)
      · have := Int.mul_nonneg (a := t.toInt) (b := -e0.toInt) (by omega) (by omega)
        rw [Int.mul_neg] at this
        omega
    have b : t.toInt * (-e0.toInt) ≤ 13 * 10 := by
      by_cases hz : 0 ≤ -e0.toInt
      · exact Int.mul_le_mul ht.2 (by omega) hz (by omega)
      · have := Int.mul_nonneg (a := t.toInt) (b := e0.toInt) (by omega) (by omega)
        rw [Int.mul_neg]
        omega
    rw [Int.mul_neg] at b
    omega
  have e1 : (t * e0).toInt = t.toInt * e0.toInt := fb_mulI (by omega) (by omega)
  have e2 := mulW (st.1 (83 + 3 * i) 0) r
  have e3 : ((st.1 (83 + 3 * i) 0).toInt64 * r.toInt64 + (t * e0).toInt64).toInt = (st.1 (83 + 3 * i) 0).toInt * r.toInt + t.toInt * e0.toInt := by rw [fb_addL] <;> rw [tl, e1, e2] <;> omega
  have e4 : ((st.1 (83 + 3 * i) 0).toInt64 * r.toInt64 + (t * e0).toInt64 + m0.toInt64).toInt = (st.1 (83 + 3 * i) 0).toInt * r.toInt + t.toInt * e0.toInt + m0.toInt := by rw [fb_addL] <;> rw [tl, e3] <;> omega
  refine M.ofG [some (.ref (83 + 3 * i)), some (.int t), some (.int m0), some (.int r), some (.int e0)] (by decide) (Nat.le_of_ble_eq_true rfl) rfl ?_
  intro xp xe xs xm xa xb xme xc xad xA
  refine g_ald0 eX2_maskedC_0 ?_
  refine g_getI (ci := 2) (j := 0) (by first | rfl | exact kd_key hi | exact kd_sh hi | exact kd_ya hi | exact kd_pr hq | exact kd_pk hq | exact kd_pf hq | exact kd_ps hq | exact kd_po hq | exact kd_pr hq2 | exact kd_pk hq2 | exact kd_pf hq2 | exact kd_ps hq2 | exact kd_po hq2) (by first | decide | (unfold N0; omega)) (Nat.le_of_ble_eq_true rfl) (Nat.le_of_ble_eq_true rfl) rfl fl_X2_7 eX2_maskedC_1 ?_
  refine g_i2l eX2_maskedC_4 ?_
  refine g_ild3 eX2_maskedC_5 ?_
  refine g_i2l eX2_maskedC_6 ?_
  refine g_lmul eX2_maskedC_7 ?_
  refine g_ild1 eX2_maskedC_8 ?_
  refine g_ild4 eX2_maskedC_9 ?_
  refine g_imul eX2_maskedC_11 ?_
  refine g_i2l eX2_maskedC_12 ?_
  refine g_ladd eX2_maskedC_13 ?_
  refine g_ild2 eX2_maskedC_14 ?_
  refine g_i2l eX2_maskedC_15 ?_
  refine g_ladd eX2_maskedC_16 ?_
  refine g_ald0 eX2_maskedC_17 ?_
  refine g_callVi (ci := 2) (m_modulus st hi hk) (by first | rfl | exact kd_key hi | exact kd_sh hi | exact kd_ya hi | exact kd_pr hq | exact kd_pk hq | exact kd_pf hq | exact kd_ps hq | exact kd_po hq | exact kd_pr hq2 | exact kd_pk hq2 | exact kd_pf hq2 | exact kd_ps hq2 | exact kd_po hq2) (by first | decide | (unfold N0; omega)) (Nat.le_of_ble_eq_true rfl) rfl cv_X2_41 eX2_maskedC_18 ⟨Nat.le_of_ble_eq_true rfl, Nat.le_of_ble_eq_true rfl⟩ rfl rfl (Nat.le_of_ble_eq_true rfl) (fun z u hz => ?_)
  obtain ⟨rfl, hz⟩ := hz
  refine g_callSi (m_rest _ _ z (by omega)) cs_X2_45 eX2_maskedC_21 ⟨Nat.le_of_ble_eq_true rfl, Nat.le_of_ble_eq_true rfl⟩ rfl rfl (Nat.le_of_ble_eq_true rfl) (fun z2 u2 hz2 => ?_)
  obtain ⟨rfl, hz2⟩ := hz2
  exact g_iret rfl eX2_maskedC_24 ⟨_, rfl, ⟨rfl, by rw [hz2, e4, hz]; rfl⟩⟩
/-- a fresh C -/
noncomputable def freshF (p q b t m : Int) (seed : Int32) : Int := maskF p q t m (lotF seed 0 q) (lotF seed 1 (2 * b + 1) - b)
theorem m_freshC (st : St) {i : Nat} (hi : i < 4) (hk : keyAt st i) (t m0 seed : Int32) (ht : 2 ≤ t.toInt ∧ t.toInt ≤ 13) (hm : 0 ≤ m0.toInt ∧ m0.toInt < 13) : Mi l D cy 2 YX2_freshC [.ref (83 + 3 * i), .int t, .int m0, .int seed] st (fun z u => u = st ∧ z.toInt = freshF (st.1 (83 + 3 * i) 0).toInt (st.1 (83 + 3 * i) 1).toInt (st.1 (83 + 3 * i) 2).toInt t.toInt m0.toInt seed) := by
  have hb := hk.2.2.2.2
  have hq := hk.2.2
  have e1 : ((2 : Int32) * st.1 (83 + 3 * i) 2).toInt = 2 * (st.1 (83 + 3 * i) 2).toInt := by
    have : (2 : Int32).toInt = 2 := rfl
    rw [fb_mulI] <;> rw [this] <;> omega
  have e2 : ((2 : Int32) * st.1 (83 + 3 * i) 2 + 1).toInt = 2 * (st.1 (83 + 3 * i) 2).toInt + 1 := by rw [fb_addI] <;> rw [e1, o32] <;> omega
  have hl := lot_rng seed 1 (n := 2 * (st.1 (83 + 3 * i) 2).toInt + 1) (by omega)
  have hl0 := lot_rng seed 0 (n := (st.1 (83 + 3 * i) 1).toInt) (by omega)
  refine M.ofG [some (.ref (83 + 3 * i)), some (.int t), some (.int m0), some (.int seed), none] (by decide) (Nat.le_of_ble_eq_true rfl) rfl ?_
  intro xp xe xs xm xa xb xme xc xad xA
  refine g_ild3 eX2_freshC_0 ?_
  refine g_iconst (v := 1) (by decide) eX2_freshC_1 ?_
  refine g_iconst (v := 2) (by decide) eX2_freshC_2 ?_
  refine g_ald0 eX2_freshC_3 ?_
  refine g_getI (ci := 2) (j := 2) (by first | rfl | exact kd_key hi | exact kd_sh hi | exact kd_ya hi | exact kd_pr hq | exact kd_pk hq | exact kd_pf hq | exact kd_ps hq | exact kd_po hq | exact kd_pr hq2 | exact kd_pk hq2 | exact kd_pf hq2 | exact kd_ps hq2 | exact kd_po hq2) (by first | decide | (unfold N0; omega)) (Nat.le_of_ble_eq_true rfl) (Nat.le_of_ble_eq_true rfl) rfl fl_X2_16 eX2_freshC_4 ?_
  refine g_imul eX2_freshC_7 ?_
  refine g_iconst (v := 1) (by decide) eX2_freshC_8 ?_
  refine g_iadd eX2_freshC_9 ?_
  refine g_callSi (m_drawn st seed 1 _ (by omega)) cs_X2_31 eX2_freshC_10 ⟨Nat.le_of_ble_eq_true rfl, Nat.le_of_ble_eq_true rfl⟩ rfl rfl (Nat.le_of_ble_eq_true rfl) (fun z u hz => ?_)
  obtain ⟨rfl, hz⟩ := hz
  rw [e2] at hz
  have e3 : (z - u.1 (83 + 3 * i) 2).toInt = lotF seed 1 (2 * (u.1 (83 + 3 * i) 2).toInt + 1) - (u.1 (83 + 3 * i) 2).toInt := by rw [fb_subI] <;> rw [hz] <;> omega
  refine g_ald0 eX2_freshC_13 ?_
  refine g_getI (ci := 2) (j := 2) (by first | rfl | exact kd_key hi | exact kd_sh hi | exact kd_ya hi | exact kd_pr hq | exact kd_pk hq | exact kd_pf hq | exact kd_ps hq | exact kd_po hq | exact kd_pr hq2 | exact kd_pk hq2 | exact kd_pf hq2 | exact kd_ps hq2 | exact kd_po hq2) (by first | decide | (unfold N0; omega)) (Nat.le_of_ble_eq_true rfl) (Nat.le_of_ble_eq_true rfl) rfl fl_X2_16 eX2_freshC_14 ?_
  refine g_isub eX2_freshC_17 ?_
  refine g_ist4 rfl (Nat.le_of_ble_eq_true rfl) eX2_freshC_18 ?_
  refine g_ald0 eX2_freshC_20 ?_
  refine g_ild1 eX2_freshC_21 ?_
  refine g_ild2 eX2_freshC_22 ?_
  refine g_ild3 eX2_freshC_23 ?_
  refine g_iconst (v := 0) (by decide) eX2_freshC_24 ?_
  refine g_ald0 eX2_freshC_25 ?_
  refine g_getI (ci := 2) (j := 1) (by first | rfl | exact kd_key hi | exact kd_sh hi | exact kd_ya hi | exact kd_pr hq | exact kd_pk hq | exact kd_pf hq | exact kd_ps hq | exact kd_po hq | exact kd_pr hq2 | exact kd_pk hq2 | exact kd_pf hq2 | exact kd_ps hq2 | exact kd_po hq2) (by first | decide | (unfold N0; omega)) (Nat.le_of_ble_eq_true rfl) (Nat.le_of_ble_eq_true rfl) rfl fl_X2_13 eX2_freshC_26 ?_
  refine g_callSi (m_drawn _ seed 0 _ (by omega)) cs_X2_31 eX2_freshC_29 ⟨Nat.le_of_ble_eq_true rfl, Nat.le_of_ble_eq_true rfl⟩ rfl rfl (Nat.le_of_ble_eq_true rfl) (fun z2 u2 hz2 => ?_)
  obtain ⟨rfl, hz2⟩ := hz2
  refine g_ild4 eX2_freshC_32 ?_
  refine g_callVi (ci := 2) (m_maskedC _ hi hk t m0 z2 _ ht hm (by omega) (by omega)) (by first | rfl | exact kd_key hi | exact kd_sh hi | exact kd_ya hi | exact kd_pr hq | exact kd_pk hq | exact kd_pf hq | exact kd_ps hq | exact kd_po hq | exact kd_pr hq2 | exact kd_pk hq2 | exact kd_pf hq2 | exact kd_ps hq2 | exact kd_po hq2) (by first | decide | (unfold N0; omega)) (Nat.le_of_ble_eq_true rfl) rfl cv_X2_37 eX2_freshC_34 ⟨Nat.le_of_ble_eq_true rfl, Nat.le_of_ble_eq_true rfl⟩ rfl rfl (Nat.le_of_ble_eq_true rfl) (fun z3 u3 hz3 => ?_)
  obtain ⟨rfl, hz3⟩ := hz3
  exact g_iret rfl eX2_freshC_37 ⟨_, rfl, ⟨rfl, by rw [hz3, hz2, e3]; rfl⟩⟩
/-- the noise of a C -/
def noiseF (c p : Int) : Int := if p < 2 * (c % p) then c % p - p else c % p
theorem noise_rng (c : Int) {p : Int} (hp : 101 ≤ p) : -p < 2 * noiseF c p ∧ 2 * noiseF c p ≤ p := by
  have h1 := Int.emod_nonneg c (b := p) (by omega)
  have h2 := Int.emod_lt_of_pos c (b := p) (by omega)
  unfold noiseF
  split <;> omega
theorem m_noiseOf (st : St) {i : Nat} (hi : i < 4) (hk : keyAt st i) (c0 : Int32) : Mi l D cy 1 YX2_noiseOf [.ref (83 + 3 * i), .int c0] st (fun z u => u = st ∧ z.toInt = noiseF c0.toInt (st.1 (83 + 3 * i) 0).toInt) := by
  have hp := hk.1
  have hp2 := hk.2.1
  have h1 := Int.emod_nonneg c0.toInt (b := (st.1 (83 + 3 * i) 0).toInt) (by omega)
  have h2 := Int.emod_lt_of_pos c0.toInt (b := (st.1 (83 + 3 * i) 0).toInt) (by omega)
  refine M.ofG [some (.ref (83 + 3 * i)), some (.int c0), none] (by decide) (Nat.le_of_ble_eq_true rfl) rfl ?_
  intro xp xe xs xm xa xb xme xc xad xA
  refine g_ild1 eX2_noiseOf_0 ?_
  refine g_i2l eX2_noiseOf_1 ?_
  refine g_ald0 eX2_noiseOf_2 ?_
  refine g_getI (ci := 2) (j := 0) (by first | rfl | exact kd_key hi | exact kd_sh hi | exact kd_ya hi | exact kd_pr hq | exact kd_pk hq | exact kd_pf hq | exact kd_ps hq | exact kd_po hq | exact kd_pr hq2 | exact kd_pk hq2 | exact kd_pf hq2 | exact kd_ps hq2 | exact kd_po hq2) (by first | decide | (unfold N0; omega)) (Nat.le_of_ble_eq_true rfl) (Nat.le_of_ble_eq_true rfl) rfl fl_X2_7 eX2_noiseOf_3 ?_
  refine g_callSi (m_rest st _ _ (by omega)) cs_X2_45 eX2_noiseOf_6 ⟨Nat.le_of_ble_eq_true rfl, Nat.le_of_ble_eq_true rfl⟩ rfl rfl (Nat.le_of_ble_eq_true rfl) (fun z u hz => ?_)
  obtain ⟨rfl, hz⟩ := hz
  rw [tl] at hz
  have e1 : ((2 : Int32) * z).toInt = 2 * z.toInt := by
    have : (2 : Int32).toInt = 2 := rfl
    rw [fb_mulI] <;> rw [this] <;> omega
  refine g_ist2 rfl (Nat.le_of_ble_eq_true rfl) eX2_noiseOf_9 ?_
  refine g_iconst (v := 2) (by decide) eX2_noiseOf_10 ?_
  refine g_ild2 eX2_noiseOf_11 ?_
  refine g_imul eX2_noiseOf_12 ?_
  refine g_ald0 eX2_noiseOf_13 ?_
  refine g_getI (ci := 2) (j := 0) (by first | rfl | exact kd_key hi | exact kd_sh hi | exact kd_ya hi | exact kd_pr hq | exact kd_pk hq | exact kd_pf hq | exact kd_ps hq | exact kd_po hq | exact kd_pr hq2 | exact kd_pk hq2 | exact kd_pf hq2 | exact kd_ps hq2 | exact kd_po hq2) (by first | decide | (unfold N0; omega)) (Nat.le_of_ble_eq_true rfl) (Nat.le_of_ble_eq_true rfl) rfl fl_X2_7 eX2_noiseOf_14 ?_
  refine g_icmp_le eX2_noiseOf_17 (fun hb17 => ?_) (fun hb17 => ?_)
  · try simp only [fa_lt, fa_le, fa_eq, Int32.reduceToInt] at hb17
    refine g_ild2 eX2_noiseOf_29 ?_
    refine g_iret rfl eX2_noiseOf_30 ⟨_, rfl, ?_⟩
    try dsimp only
    refine ⟨rfl, ?_⟩
    unfold noiseF
    first | (rw [if_neg (by omega)]; exact hz) | (rw [if_pos (by omega), fb_subI] <;> omega)
  · try simp only [fa_lt, fa_le, fa_eq, Int32.reduceToInt] at hb17
    refine g_ild2 eX2_noiseOf_20 ?_
    refine g_ald0 eX2_noiseOf_21 ?_
    refine g_getI (ci := 2) (j := 0) (by first | rfl | exact kd_key hi | exact kd_sh hi | exact kd_ya hi | exact kd_pr hq | exact kd_pk hq | exact kd_pf hq | exact kd_ps hq | exact kd_po hq | exact kd_pr hq2 | exact kd_pk hq2 | exact kd_pf hq2 | exact kd_ps hq2 | exact kd_po hq2) (by first | decide | (unfold N0; omega)) (Nat.le_of_ble_eq_true rfl) (Nat.le_of_ble_eq_true rfl) rfl fl_X2_7 eX2_noiseOf_22 ?_
    refine g_isub eX2_noiseOf_25 ?_
    refine g_goto eX2_noiseOf_26 ?_
    refine g_iret rfl eX2_noiseOf_30 ⟨_, rfl, ?_⟩
    try dsimp only
    refine ⟨rfl, ?_⟩
    unfold noiseF
    first | (rw [if_neg (by omega)]; exact hz) | (rw [if_pos (by omega), fb_subI] <;> omega)
theorem m_openedOf (st : St) {i : Nat} (hi : i < 4) (hk : keyAt st i) (c0 t : Int32) (ht : 2 ≤ t.toInt ∧ t.toInt ≤ 13) : Mi l D cy 2 YX2_openedOf [.ref (83 + 3 * i), .int c0, .int t] st (fun z u => u = st ∧ z.toInt = noiseF c0.toInt (st.1 (83 + 3 * i) 0).toInt % t.toInt) := by
  refine M.ofG [some (.ref (83 + 3 * i)), some (.int c0), some (.int t)] (by decide) (Nat.le_of_ble_eq_true rfl) rfl ?_
  intro xp xe xs xm xa xb xme xc xad xA
  refine g_ald0 eX2_openedOf_0 ?_
  refine g_ild1 eX2_openedOf_1 ?_
  refine g_callVi (ci := 2) (m_noiseOf st hi hk c0) (by first | rfl | exact kd_key hi | exact kd_sh hi | exact kd_ya hi | exact kd_pr hq | exact kd_pk hq | exact kd_pf hq | exact kd_ps hq | exact kd_po hq | exact kd_pr hq2 | exact kd_pk hq2 | exact kd_pf hq2 | exact kd_ps hq2 | exact kd_po hq2) (by first | decide | (unfold N0; omega)) (Nat.le_of_ble_eq_true rfl) rfl cv_X2_49 eX2_openedOf_2 ⟨Nat.le_of_ble_eq_true rfl, Nat.le_of_ble_eq_true rfl⟩ rfl rfl (Nat.le_of_ble_eq_true rfl) (fun z u hz => ?_)
  obtain ⟨rfl, hz⟩ := hz
  refine g_i2l eX2_openedOf_5 ?_
  refine g_ild2 eX2_openedOf_6 ?_
  refine g_callSi (m_rest _ _ t (by omega)) cs_X2_45 eX2_openedOf_7 ⟨Nat.le_of_ble_eq_true rfl, Nat.le_of_ble_eq_true rfl⟩ rfl rfl (Nat.le_of_ble_eq_true rfl) (fun z2 u2 hz2 => ?_)
  obtain ⟨rfl, hz2⟩ := hz2
  exact g_iret rfl eX2_openedOf_10 ⟨_, rfl, ⟨rfl, by rw [hz2, tl, hz]⟩⟩
theorem m_drowns (st : St) {i : Nat} (hi : i < 4) (b0 : Int32) (hb : 0 ≤ b0.toInt ∧ b0.toInt ≤ 1000000) : Mi l D cy 0 YX2_drowns [.ref (83 + 3 * i), .int b0] st (fun z u => u = st ∧ z = b2 ((st.1 (83 + 3 * i) 0).toInt ≤ 2 * b0.toInt)) := by
  have e1 : ((2 : Int32) * b0).toInt = 2 * b0.toInt := by
    have : (2 : Int32).toInt = 2 := rfl
    rw [fb_mulI] <;> rw [this] <;> omega
  refine M.ofG [some (.ref (83 + 3 * i)), some (.int b0)] (by decide) (Nat.le_of_ble_eq_true rfl) rfl ?_
  intro xp xe xs xm xa xb xme xc xad xA
  refine g_iconst (v := 2) (by decide) eX2_drowns_0 ?_
  refine g_ild1 eX2_drowns_1 ?_
  refine g_imul eX2_drowns_2 ?_
  refine g_ald0 eX2_drowns_3 ?_
  refine g_getI (ci := 2) (j := 0) (by first | rfl | exact kd_key hi | exact kd_sh hi | exact kd_ya hi | exact kd_pr hq | exact kd_pk hq | exact kd_pf hq | exact kd_ps hq | exact kd_po hq | exact kd_pr hq2 | exact kd_pk hq2 | exact kd_pf hq2 | exact kd_ps hq2 | exact kd_po hq2) (by first | decide | (unfold N0; omega)) (Nat.le_of_ble_eq_true rfl) (Nat.le_of_ble_eq_true rfl) rfl fl_X2_7 eX2_drowns_4 ?_
  refine g_icmp_lt eX2_drowns_7 (fun hb7 => ?_) (fun hb7 => ?_)
  · try simp only [fa_lt, fa_le, fa_eq, Int32.reduceToInt] at hb7
    refine g_iconst (v := 0) (by decide) eX2_drowns_14 ?_
    refine g_zret (ty := .boolean) rfl (by first | rfl | assumption) eX2_drowns_15 ⟨_, rfl, ?_⟩
    try dsimp only
    first | exact ⟨rfl, b2_t (by omega)⟩ | exact ⟨rfl, b2_f (by omega)⟩
  · try simp only [fa_lt, fa_le, fa_eq, Int32.reduceToInt] at hb7
    refine g_iconst (v := 1) (by decide) eX2_drowns_10 ?_
    refine g_goto eX2_drowns_11 ?_
    refine g_zret (ty := .boolean) rfl (by first | rfl | assumption) eX2_drowns_15 ⟨_, rfl, ?_⟩
    try dsimp only
    first | exact ⟨rfl, b2_t (by omega)⟩ | exact ⟨rfl, b2_f (by omega)⟩
end KEY
