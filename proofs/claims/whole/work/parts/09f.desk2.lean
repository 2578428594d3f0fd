/-! SealedSums$Desk: by bounds alone, sealed, and two programs held against each other; Integer.bitCount -/
section DESK2
variable {l : Launch} {D : va_G} {cy : Nat → ClassId}
def uI (x s : Int32) : Int32 := (x.toUInt32 >>> (s.toUInt32 &&& Int32.toUInt32 31)).toInt32
def bcA (x : Int32) : Int32 := x - (uI x 1 &&& 1431655765)
def bcB (x : Int32) : Int32 := (x &&& 858993459) + (uI x 2 &&& 858993459)
def bcC (x : Int32) : Int32 := (x + uI x 4) &&& 252645135
def bcD (x : Int32) : Int32 := x + uI x 8
def bcE (x : Int32) : Int32 := x + uI x 16
def bcI (x : Int32) : Int32 := bcE (bcD (bcC (bcB (bcA x)))) &&& 63
theorem m_bitCount (st : St) (x : Int32) : Mi l D cy 0 YJ6_bitCount_0f7a4 [.int x] st (fun r u => u = st ∧ r = bcI x) := by
  refine M.ofG [some (.int x)] (by decide) (Nat.le_of_ble_eq_true rfl) rfl ?_
  intro xp xe xs xm xa xb xme xc xad xA
  refine g_ild0 eJ6_bitCount_0f7a4_0 ?_
  refine g_ild0 eJ6_bitCount_0f7a4_1 ?_
  refine g_iconst (v := 1) (by decide) eJ6_bitCount_0f7a4_2 ?_
  refine g_iushr eJ6_bitCount_0f7a4_3 ?_
  refine g_ldcw kc_J6_265 eJ6_bitCount_0f7a4_4 ?_
  refine g_iand eJ6_bitCount_0f7a4_7 ?_
  refine g_isub eJ6_bitCount_0f7a4_8 ?_
  refine g_ist0 (Nat.le_of_ble_eq_true rfl) eJ6_bitCount_0f7a4_9 ?_
  refine g_ild0 eJ6_bitCount_0f7a4_10 ?_
  refine g_ldcw kc_J6_266 eJ6_bitCount_0f7a4_11 ?_
  refine g_iand eJ6_bitCount_0f7a4_14 ?_
  refine g_ild0 eJ6_bitCount_0f7a4_15 ?_
  refine g_iconst (v := 2) (by decide) eJ6_bitCount_0f7a4_16 ?_
  refine g_iushr eJ6_bitCount_0f7a4_17 ?_
  refine g_ldcw kc_J6_266 eJ6_bitCount_0f7a4_18 ?_
  refine g_iand eJ6_bitCount_0f7a4_21 ?_
  refine g_iadd eJ6_bitCount_0f7a4_22 ?_
  refine g_ist0 (Nat.le_of_ble_eq_true rfl) eJ6_bitCount_0f7a4_23 ?_
  refine g_ild0 eJ6_bitCount_0f7a4_24 ?_
  refine g_ild0 eJ6_bitCount_0f7a4_25 ?_
  refine g_iconst (v := 4) (by decide) eJ6_bitCount_0f7a4_26 ?_
  refine g_iushr eJ6_bitCount_0f7a4_27 ?_
  refine g_iadd eJ6_bitCount_0f7a4_28 ?_
  refine g_ldcw kc_J6_267 eJ6_bitCount_0f7a4_29 ?_
  refine g_iand eJ6_bitCount_0f7a4_32 ?_
  refine g_ist0 (Nat.le_of_ble_eq_true rfl) eJ6_bitCount_0f7a4_33 ?_
  refine g_ild0 eJ6_bitCount_0f7a4_34 ?_
  refine g_ild0 eJ6_bitCount_0f7a4_35 ?_
  refine g_bipush (v := 8) (by decide) eJ6_bitCount_0f7a4_36 ?_
  refine g_iushr eJ6_bitCount_0f7a4_38 ?_
  refine g_iadd eJ6_bitCount_0f7a4_39 ?_
  refine g_ist0 (Nat.le_of_ble_eq_true rfl) eJ6_bitCount_0f7a4_40 ?_
  refine g_ild0 eJ6_bitCount_0f7a4_41 ?_
  refine g_ild0 eJ6_bitCount_0f7a4_42 ?_
  refine g_bipush (v := 16) (by decide) eJ6_bitCount_0f7a4_43 ?_
  refine g_iushr eJ6_bitCount_0f7a4_45 ?_
  refine g_iadd eJ6_bitCount_0f7a4_46 ?_
  refine g_ist0 (Nat.le_of_ble_eq_true rfl) eJ6_bitCount_0f7a4_47 ?_
  refine g_ild0 eJ6_bitCount_0f7a4_48 ?_
  refine g_bipush (v := 63) (by decide) eJ6_bitCount_0f7a4_49 ?_
  refine g_iand eJ6_bitCount_0f7a4_51 ?_
  exact g_iret rfl eJ6_bitCount_0f7a4_52 ⟨_, rfl, ⟨rfl, rfl⟩⟩
/-- how many ones, of 12 places -/
def popN (k : Nat) : Nat := k % 2 + k / 2 % 2 + k / 4 % 2 + k / 8 % 2 + k / 16 % 2 + k / 32 % 2 + k / 64 % 2 + k / 128 % 2 + k / 256 % 2 + k / 512 % 2 + k / 1024 % 2 + k / 2048 % 2
def bcAll (n : Nat) : Nat → Bool
  | 0 => true
  | k + 1 => (bcI (nI (n + k)) == nI (popN (n + k))) && bcAll n k
theorem bcAll_at {n : Nat} : ∀ {m : Nat}, bcAll n m = true → ∀ k, k < m → bcI (nI (n + k)) = nI (popN (n + k))
  | 0, _, k, hk => absurd hk (Nat.not_lt_zero k)
  | m + 1, h, k, hk => by
    simp only [bcAll, Bool.and_eq_true, beq_iff_eq] at h
    rcases Nat.lt_or_ge k m with h1 | h1
    · exact bcAll_at h.2 k h1
    · have : k = m := by omega
      subst this
      exact h.1
theorem bc_0 : bcAll 0 256 = true := by decide +kernel
theorem bc_1 : bcAll 256 256 = true := by decide +kernel
theorem bc_2 : bcAll 512 256 = true := by decide +kernel
theorem bc_3 : bcAll 768 256 = true := by decide +kernel
theorem bc_4 : bcAll 1024 256 = true := by decide +kernel
theorem bc_5 : bcAll 1280 256 = true := by decide +kernel
theorem bc_6 : bcAll 1536 256 = true := by decide +kernel
theorem bc_7 : bcAll 1792 256 = true := by decide +kernel
theorem bc_8 : bcAll 2048 256 = true := by decide +kernel
theorem bc_9 : bcAll 2304 256 = true := by decide +kernel
theorem bc_10 : bcAll 2560 256 = true := by decide +kernel
theorem bc_11 : bcAll 2816 256 = true := by decide +kernel
theorem bc_12 : bcAll 3072 256 = true := by decide +kernel
theorem bc_13 : bcAll 3328 256 = true := by decide +kernel
theorem bc_14 : bcAll 3584 256 = true := by decide +kernel
theorem bc_15 : bcAll 3840 256 = true := by decide +kernel
theorem bc_pop {k : Nat} (hk : k < 4096) : bcI (nI k) = nI (popN k) := by
  have h : ∀ n, n < 16 → bcAll (256 * n) 256 = true := by
    intro n hn
    match n, hn with
    | 0, _ => exact bc_0
    | 1, _ => exact bc_1
    | 2, _ => exact bc_2
    | 3, _ => exact bc_3
    | 4, _ => exact bc_4
    | 5, _ => exact bc_5
    | 6, _ => exact bc_6
    | 7, _ => exact bc_7
    | 8, _ => exact bc_8
    | 9, _ => exact bc_9
    | 10, _ => exact bc_10
    | 11, _ => exact bc_11
    | 12, _ => exact bc_12
    | 13, _ => exact bc_13
    | 14, _ => exact bc_14
    | 15, _ => exact bc_15
    | m + 16, h => exact absurd h (by omega)
  have h1 := bcAll_at (h (k / 256) (by omega)) (k % 256) (by omega)
  rw [show 256 * (k / 256) + k % 256 = k by omega] at h1
  exact h1
theorem pop_le (k : Nat) : popN k ≤ 12 := by unfold popN; omega
/-- the bounds behind n works, all laid by 'lay'; none where one is drowned -/
def afl (K A B : Nat → Int) (fresh p lay : Int) : Nat → Option (Nat → Int)
  | 0 => some (fun _ => fresh)
  | n + 1 => match afl K A B fresh p lay n with
    | none => none
    | some s =>
      if p ≤ 2 * boundF (K n) (s (A n).toNat) (if K n = 4 ∨ K n = 5 then B n else s (B n).toNat) then none
      else some (fun j => if j = n then (if laidF lay n then fresh else boundF (K n) (s (A n).toNat) (if K n = 4 ∨ K n = 5 then B n else s (B n).toNat)) else s j)
theorem afl_none {K A B : Nat → Int} {fresh p lay : Int} {n : Nat} (h : afl K A B fresh p lay n = none) : ∀ m, afl K A B fresh p lay (n + m) = none
  | 0 => h
  | m + 1 => by
    show (match afl K A B fresh p lay (n + m) with | none => none | some s => _) = none
    rw [afl_none h m]
abbrev stays (K A B : Nat → Int) (ins : Int) (n : Nat) (fresh p lay : Int) : Prop := ¬ (0 < ins ∧ p ≤ 2 * fresh) ∧ (afl K A B fresh p lay n).isSome = true
theorem bound_rng (k a b : Int) (ha : 0 ≤ a) : 0 ≤ boundF k a b ∧ boundF k a b ≤ 1000000 := by
  unfold boundF
  split
  · have := Int.mul_nonneg ha (show (0 : Int) ≤ (b.natAbs : Int) by omega)
    omega
  · omega
abbrev kP (st : St) (i : Nat) : Int := (st.1 (83 + 3 * i) 0).toInt
abbrev kQ (st : St) (i : Nat) : Int := (st.1 (83 + 3 * i) 1).toInt
abbrev kB (st : St) (i : Nat) : Int := (st.1 (83 + 3 * i) 2).toInt
theorem cOK_read {w : Nat} {ins c : Int} (h : cOK w ins c) (hi : ins ≤ 6) : c.toNat < w ∨ (40 ≤ c.toNat ∧ c.toNat < 46) := by
  rcases h with h | h
  · left; omega
  · right; omega
set_option maxHeartbeats 8000000 in
theorem m_staysAfloat (st : St) {q : Nat} (hq : q < 4) {i : Nat} (hi : i < 4) (hk : keyAt st i) (ht : tOK (st.1 24 0)) (hp : pgOK (st.1 24 0).toInt st q) (x : Int32) (hx : 0 ≤ x.toInt) : Mi l D cy 3 YX0_staysAfloat [.ref 24, .ref (95 + 5 * q), .ref (83 + 3 * i), .int x] st (fun r u => (∃ g, u = sR st 26 g) ∧ r = b2 (stays (gK st q) (gA st q) (gB st q) ((st.1 (95 + 5 * q) 4).toInt) ((st.1 (95 + 5 * q) 5).toInt).toNat ((st.1 24 0).toInt * (st.1 (83 + 3 * i) 2).toInt + (st.1 24 0).toInt - 1) (st.1 (83 + 3 * i) 0).toInt x.toInt)) := by
  have hw := hp.1
  have hw2 := hp.2.1
  have hin := hp.2.2.1
  have hin2 := hp.2.2.2.1
  have htb := tb_rng ht hk.2.2.2.2
  generalize hF : (st.1 24 0).toInt * (st.1 (83 + 3 * i) 2).toInt + (st.1 24 0).toInt - 1 = F at htb ⊢
  have hF0 : 0 ≤ F ∧ F ≤ 1000000 := by omega
  refine M.ofG [some (.ref 24), some (.ref (95 + 5 * q)), some (.ref (83 + 3 * i)), some (.int x), none, none, none] (by decide) (Nat.le_of_ble_eq_true rfl) rfl ?_
  intro xp xe xs xm xa xb xme xc xad xA
  refine g_ald2 eX0_staysAfloat_0 ?_
  refine g_ald0 eX0_staysAfloat_1 ?_
  refine g_getI (ci := 0) (j := 0) (by first | rfl | exact kd_key hi | exact kd_sh hi | exact kd_ya hi | exact kd_pr hq | exact kd_pk hq | exact kd_pf hq | exact kd_ps hq | exact kd_po hq | exact kd_pr hq2 | exact kd_pk hq2 | exact kd_pf hq2 | exact kd_ps hq2 | exact kd_po hq2) (by first | decide | (unfold N0; omega)) (Nat.le_of_ble_eq_true rfl) (Nat.le_of_ble_eq_true rfl) rfl fl_X0_23 eX0_staysAfloat_2 ?_
  refine g_callVi (ci := 2) (m_freshBound st hi hk _ ht) (by first | rfl | exact kd_key hi | exact kd_sh hi | exact kd_ya hi | exact kd_pr hq | exact kd_pk hq | exact kd_pf hq | exact kd_ps hq | exact kd_po hq | exact kd_pr hq2 | exact kd_pk hq2 | exact kd_pf hq2 | exact kd_ps hq2 | exact kd_po hq2) (by first | decide | (unfold N0; omega)) (Nat.le_of_ble_eq_true rfl) rfl cv_X0_27 eX0_staysAfloat_5 ⟨Nat.le_of_ble_eq_true rfl, Nat.le_of_ble_eq_true rfl⟩ rfl rfl (Nat.le_of_ble_eq_true rfl) (fun fr st hfr => ?_)
  obtain ⟨rfl, hfr⟩ := hfr
  rw [hF] at hfr
  have loop : ∀ (f k : Nat) (g : Nat → Int32) (s0 : Nat → Int) (y : Option Value), k + f = ((st.1 (95 + 5 * q) 5).toInt).toNat → ¬ (0 < (st.1 (95 + 5 * q) 4).toInt ∧ (st.1 (83 + 3 * i) 0).toInt ≤ 2 * F) → afl (gK st q) (gA st q) (gB st q) F (st.1 (83 + 3 * i) 0).toInt x.toInt k = some s0 → (∀ j, (j < k ∨ (40 ≤ j ∧ j < 46)) → (g j).toInt = s0 j ∧ 0 ≤ s0 j ∧ s0 j ≤ 1000000) → G xp l xe (rmd (3)) xs xm xa xb xme xc D cy xad xA (YX0_staysAfloat.2.1, YX0_staysAfloat.1.cls, YX0_staysAfloat.2.2.1, YX0_staysAfloat.2.2.2) (Pi (fun (r : Int32) (u : St) => (∃ g, u = sR st 26 g) ∧ r = b2 (stays (gK st q) (gA st q) (gB st q) ((st.1 (95 + 5 * q) 4).toInt) ((st.1 (95 + 5 * q) 5).toInt).toNat F (st.1 (83 + 3 * i) 0).toInt x.toInt))) 59 ([some (.ref 24), some (.ref (95 + 5 * q)), some (.ref (83 + 3 * i)), some (.int x), some (.int fr), some (.int (nI k)), y]) ([]) (sR st 26 g) := by
    intro f
    induction f with
    | zero =>
      intro k g s0 y hk9 h0 hs hg
      refine g_ild5 eX0_staysAfloat_59 ?_
      refine g_ald1 eX0_staysAfloat_61 ?_
      refine g_getI (ci := 6) (j := 5) (by first | rfl | exact kd_key hi | exact kd_sh hi | exact kd_ya hi | exact kd_pr hq | exact kd_pk hq | exact kd_pf hq | exact kd_ps hq | exact kd_po hq | exact kd_pr hq2 | exact kd_pk hq2 | exact kd_pf hq2 | exact kd_ps hq2 | exact kd_po hq2) (by first | decide | (unfold N0; omega)) (Nat.le_of_ble_eq_true rfl) (Nat.le_of_ble_eq_true rfl) rfl fl_X0_43 eX0_staysAfloat_62 ?_
      rw [sR_ne (show 95 + 5 * q ≠ 26 by omega)]
      refine g_icmp_ge eX0_staysAfloat_65 (fun hb => ?_) (fun hb => ?_)
      · refine g_iconst (v := 1) (by decide) eX0_staysAfloat_120 ?_
        refine g_zret (ty := .boolean) rfl (by first | rfl | assumption) eX0_staysAfloat_121 ⟨_, rfl, ?_⟩
        try dsimp only
        refine ⟨⟨g, rfl⟩, b2_t ⟨h0, ?_⟩⟩
        rw [show ((st.1 (95 + 5 * q) 5).toInt).toNat = k by omega, hs]
        rfl
      · rw [fa_le, nI_toInt (by omega)] at hb
        exfalso
        omega
    | succ f ih =>
      intro k g s0 y hk9 h0 hs hg
      have e96 : (sR st 26 g).1 (96 + 5 * q) = st.1 (96 + 5 * q) := sR_ne (by omega)
      have e97 : (sR st 26 g).1 (97 + 5 * q) = st.1 (97 + 5 * q) := sR_ne (by omega)
      have e98 : (sR st 26 g).1 (98 + 5 * q) = st.1 (98 + 5 * q) := sR_ne (by omega)
      have e83 : (sR st 26 g).1 (83 + 3 * i) = st.1 (83 + 3 * i) := sR_ne (by omega)
      obtain ⟨i1, i2, i3⟩ := pg_in hp (w := k) (by omega)
      obtain ⟨w1, w2, w3, w4, -⟩ := hp.2.2.2.2.2.2.1 k (by omega)
      have rA := hg _ (cOK_read w3 hin2)
      refine g_ild5 eX0_staysAfloat_59 ?_
      refine g_ald1 eX0_staysAfloat_61 ?_
      refine g_getI (ci := 6) (j := 5) (by first | rfl | exact kd_key hi | exact kd_sh hi | exact kd_ya hi | exact kd_pr hq | exact kd_pk hq | exact kd_pf hq | exact kd_ps hq | exact kd_po hq | exact kd_pr hq2 | exact kd_pk hq2 | exact kd_pf hq2 | exact kd_ps hq2 | exact kd_po hq2) (by first | decide | (unfold N0; omega)) (Nat.le_of_ble_eq_true rfl) (Nat.le_of_ble_eq_true rfl) rfl fl_X0_43 eX0_staysAfloat_62 ?_
      rw [sR_ne (show 95 + 5 * q ≠ 26 by omega)]
      refine g_icmp_ge eX0_staysAfloat_65 (fun hb => ?_) (fun hb => ?_)
      · rw [fa_le, nI_toInt (by omega)] at hb
        exfalso
        omega
      · refine g_ald1 eX0_staysAfloat_68 ?_
        refine g_ild5 eX0_staysAfloat_69 ?_
        refine g_ald0 eX0_staysAfloat_71 ?_
        refine g_getR (ci := 0) (j := 2) (by first | rfl | exact kd_key hi | exact kd_sh hi | exact kd_ya hi | exact kd_pr hq | exact kd_pk hq | exact kd_pf hq | exact kd_ps hq | exact kd_po hq | exact kd_pr hq2 | exact kd_pk hq2 | exact kd_pf hq2 | exact kd_ps hq2 | exact kd_po hq2) (by first | decide | (unfold N0; omega)) (Nat.le_of_ble_eq_true rfl) (Nat.le_of_ble_eq_true rfl) rfl (by first | rfl | exact r_key4 hi | exact r_sh0 hi | exact r_p0 hq | exact r_p1 hq | exact r_p2 hq | exact r_p3 hq | exact r_p0 hq2 | exact r_p1 hq2 | exact r_p2 hq2 | exact r_p3 hq2) fl_X0_17 eX0_staysAfloat_72 ?_
        refine g_callVi (ci := 6) (m_boundOf _ hq k i1 (by rw [e97]; exact i2) (by rw [e96, e98]; exact i3) (by rw [e97, sR_at]; omega)) (by first | rfl | exact kd_key hi | exact kd_sh hi | exact kd_ya hi | exact kd_pr hq | exact kd_pk hq | exact kd_pf hq | exact kd_ps hq | exact kd_po hq | exact kd_pr hq2 | exact kd_pk hq2 | exact kd_pf hq2 | exact kd_ps hq2 | exact kd_po hq2) (by first | decide | (unfold N0; omega)) (Nat.le_of_ble_eq_true rfl) rfl cv_X0_46 eX0_staysAfloat_75 ⟨Nat.le_of_ble_eq_true rfl, Nat.le_of_ble_eq_true rfl⟩ rfl rfl (Nat.le_of_ble_eq_true rfl) (fun r u2 hr => ?_)
        obtain ⟨rfl, hr⟩ := hr
        unfold secF at hr
        rw [e96, e97, e98, sR_at] at hr
        have hsec : (if (st.1 (96 + 5 * q) k).toInt = 4 ∨ (st.1 (96 + 5 * q) k).toInt = 5 then (st.1 (98 + 5 * q) k).toInt else (g ((st.1 (98 + 5 * q) k).toInt).toNat).toInt) = (if gK st q k = 4 ∨ gK st q k = 5 then gB st q k else s0 (gB st q k).toNat) := by
          by_cases hh : gK st q k = 4 ∨ gK st q k = 5
          · exact (if_pos hh).trans (if_pos hh).symm
          · refine (if_neg hh).trans (Eq.trans ?_ (if_neg hh).symm)
            exact (hg _ (cOK_read (w4 (by have h9 : ¬ ((st.1 (96 + 5 * q) k).toInt = 4 ∨ (st.1 (96 + 5 * q) k).toInt = 5) := hh; omega)) hin2)).1
        rw [hsec, rA.1] at hr
        have hbr := bound_rng (gK st q k) (s0 (gA st q k).toNat) (if gK st q k = 4 ∨ gK st q k = 5 then gB st q k else s0 (gB st q k).toNat) rA.2.1
        have hr9 : r.toInt = boundF (gK st q k) (s0 (gA st q k).toNat) (if gK st q k = 4 ∨ gK st q k = 5 then gB st q k else s0 (gB st q k).toNat) := hr
        refine g_ist6 rfl (Nat.le_of_ble_eq_true rfl) eX0_staysAfloat_78 ?_
        refine g_ald2 eX0_staysAfloat_80 ?_
        refine g_ild6 eX0_staysAfloat_81 ?_
        refine g_callVi (ci := 2) (m_drowns _ hi r (by omega)) (by first | rfl | exact kd_key hi | exact kd_sh hi | exact kd_ya hi | exact kd_pr hq | exact kd_pk hq | exact kd_pf hq | exact kd_ps hq | exact kd_po hq | exact kd_pr hq2 | exact kd_pk hq2 | exact kd_pf hq2 | exact kd_ps hq2 | exact kd_po hq2) (by first | decide | (unfold N0; omega)) (Nat.le_of_ble_eq_true rfl) rfl cv_X0_36 eX0_staysAfloat_83 ⟨Nat.le_of_ble_eq_true rfl, Nat.le_of_ble_eq_true rfl⟩ rfl rfl (Nat.le_of_ble_eq_true rfl) (fun r3 u3 hr3 => ?_)
        obtain ⟨rfl, rfl⟩ := hr3
        rw [e83]
        refine g_if_eq eX0_staysAfloat_86 (fun hd => ?_) (fun hd => ?_)
        · rw [b2_eq0, hr9] at hd
          have hs2 : afl (gK st q) (gA st q) (gB st q) F (st.1 (83 + 3 * i) 0).toInt x.toInt (k + 1) = some (fun j => if j = k then (if laidF x.toInt k then F else boundF (gK st q k) (s0 (gA st q k).toNat) (if gK st q k = 4 ∨ gK st q k = 5 then gB st q k else s0 (gB st q k).toNat)) else s0 j) := by
            show (match afl (gK st q) (gA st q) (gB st q) F (st.1 (83 + 3 * i) 0).toInt x.toInt k with | none => none | some s => _) = _
            rw [hs]
            exact if_neg hd
          have tail : ∀ z : Int32, z.toInt = (if laidF x.toInt k then F else boundF (gK st q k) (s0 (gA st q k).toNat) (if gK st q k = 4 ∨ gK st q k = 5 then gB st q k else s0 (gB st q k).toNat)) → G xp l xe (rmd (3)) xs xm xa xb xme xc D cy xad xA (YX0_staysAfloat.2.1, YX0_staysAfloat.1.cls, YX0_staysAfloat.2.2.1, YX0_staysAfloat.2.2.2) (Pi (fun (r : Int32) (u : St) => (∃ g, u = sR st 26 g) ∧ r = b2 (stays (gK st q) (gA st q) (gB st q) ((st.1 (95 + 5 * q) 4).toInt) ((st.1 (95 + 5 * q) 5).toInt).toNat F (st.1 (83 + 3 * i) 0).toInt x.toInt))) 113 ([some (.ref 24), some (.ref (95 + 5 * q)), some (.ref (83 + 3 * i)), some (.int x), some (.int fr), some (.int (nI k)), some (.int r)]) ([.int z, .int (nI k), .ref 26]) (sR st 26 g) := by
            intro z hz
            refine g_iast (by first | rfl | exact kd_key hi | exact kd_sh hi | exact kd_ya hi | exact kd_pr hq | exact kd_pk hq | exact kd_pf hq | exact kd_ps hq | exact kd_po hq | exact kd_pr hq2 | exact kd_pk hq2 | exact kd_pf hq2 | exact kd_ps hq2 | exact kd_po hq2) (by first | decide | (unfold N0; omega)) (vp_in_nI (n := k) (N := 46) (by omega) (by decide)) eX0_staysAfloat_113 ?_
            refine g_inc5 rfl (Nat.le_of_ble_eq_true rfl) rfl eX0_staysAfloat_114 ?_
            refine g_goto eX0_staysAfloat_117 ?_
            rw [nI_clamp (by omega), sI_sR, inc1]
            refine ih (k + 1) _ _ _ (by omega) h0 hs2 (fun j hj => ?_)
            unfold upd
            by_cases hjk : j = k
            · simp only [hjk, if_true]
              refine ⟨hz, ?_⟩
              split <;> omega
            · simp only [hjk, if_false]
              exact hg j (by omega)
          refine g_ald0 eX0_staysAfloat_91 ?_
          refine g_getR (ci := 0) (j := 2) (by first | rfl | exact kd_key hi | exact kd_sh hi | exact kd_ya hi | exact kd_pr hq | exact kd_pk hq | exact kd_pf hq | exact kd_ps hq | exact kd_po hq | exact kd_pr hq2 | exact kd_pk hq2 | exact kd_pf hq2 | exact kd_ps hq2 | exact kd_po hq2) (by first | decide | (unfold N0; omega)) (Nat.le_of_ble_eq_true rfl) (Nat.le_of_ble_eq_true rfl) rfl (by first | rfl | exact r_key4 hi | exact r_sh0 hi | exact r_p0 hq | exact r_p1 hq | exact r_p2 hq | exact r_p3 hq | exact r_p0 hq2 | exact r_p1 hq2 | exact r_p2 hq2 | exact r_p3 hq2) fl_X0_17 eX0_staysAfloat_92 ?_
          refine g_ild5 eX0_staysAfloat_95 ?_
          refine g_ild3 eX0_staysAfloat_97 ?_
          refine g_ild5 eX0_staysAfloat_98 ?_
          refine g_callSi (m_isLaid _ x hx k i1) cs_X0_50 eX0_staysAfloat_100 ⟨Nat.le_of_ble_eq_true rfl, Nat.le_of_ble_eq_true rfl⟩ rfl rfl (Nat.le_of_ble_eq_true rfl) (fun r4 u4 hr4 => ?_)
          obtain ⟨rfl, rfl⟩ := hr4
          refine g_if_eq eX0_staysAfloat_103 (fun hl => ?_) (fun hl => ?_)
          · rw [b2_eq0] at hl
            refine g_ild6 eX0_staysAfloat_111 ?_
            exact tail r (by rw [if_neg hl]; exact hr9)
          · rw [b2_ne0] at hl
            refine g_ild4 eX0_staysAfloat_106 ?_
            refine g_goto eX0_staysAfloat_108 ?_
            exact tail fr (by rw [if_pos hl]; exact hfr)
        · rw [b2_ne0, hr9] at hd
          refine g_iconst (v := 0) (by decide) eX0_staysAfloat_89 ?_
          refine g_zret (ty := .boolean) rfl (by first | rfl | assumption) eX0_staysAfloat_90 ⟨_, rfl, ?_⟩
          try dsimp only
          refine ⟨⟨g, rfl⟩, b2_f (fun hst => ?_)⟩
          have hn : afl (gK st q) (gA st q) (gB st q) F (st.1 (83 + 3 * i) 0).toInt x.toInt (k + 1) = none := by
            show (match afl (gK st q) (gA st q) (gB st q) F (st.1 (83 + 3 * i) 0).toInt x.toInt k with | none => none | some s => _) = _
            rw [hs]
            exact if_pos hd
          have h9 := afl_none hn f
          rw [show k + 1 + f = ((st.1 (95 + 5 * q) 5).toInt).toNat by omega] at h9
          have h8 := hst.2
          rw [h9] at h8
          exact absurd h8 (by decide)
  have fill : ¬ (0 < (st.1 (95 + 5 * q) 4).toInt ∧ (st.1 (83 + 3 * i) 0).toInt ≤ 2 * F) → ∀ (f k : Nat) (g : Nat → Int32), k + f = 6 → (∀ j, j < k → (g (40 + j)).toInt = F) → G xp l xe (rmd (3)) xs xm xa xb xme xc D cy xad xA (YX0_staysAfloat.2.1, YX0_staysAfloat.1.cls, YX0_staysAfloat.2.2.1, YX0_staysAfloat.2.2.2) (Pi (fun (r : Int32) (u : St) => (∃ g, u = sR st 26 g) ∧ r = b2 (stays (gK st q) (gA st q) (gB st q) ((st.1 (95 + 5 * q) 4).toInt) ((st.1 (95 + 5 * q) 5).toInt).toNat F (st.1 (83 + 3 * i) 0).toInt x.toInt))) 31 ([some (.ref 24), some (.ref (95 + 5 * q)), some (.ref (83 + 3 * i)), some (.int x), some (.int fr), some (.int (nI k)), none]) ([]) (sR st 26 g) := by
    intro h0 f
    induction f with
    | zero =>
      intro k g hk9 hg
      have hk6 : k = 6 := by omega
      subst hk6
      refine g_ild5 eX0_staysAfloat_31 ?_
      refine g_bipush (v := 6) (by decide) eX0_staysAfloat_33 ?_
      refine g_icmp_ge eX0_staysAfloat_35 (fun hb => ?_) (fun hb => ?_)
      · refine g_iconst (v := 0) (by decide) eX0_staysAfloat_56 ?_
        refine g_ist5 rfl (Nat.le_of_ble_eq_true rfl) eX0_staysAfloat_57 ?_
        refine loop ((st.1 (95 + 5 * q) 5).toInt).toNat 0 g (fun _ => F) none (by omega) h0 rfl (fun j hj => ⟨?_, hF0⟩)
        have := hg (j - 40) (by omega)
        rw [show 40 + (j - 40) = j by omega] at this
        exact this
      · exact absurd (by decide) hb
    | succ f ih =>
      intro k g hk9 hg
      refine g_ild5 eX0_staysAfloat_31 ?_
      refine g_bipush (v := 6) (by decide) eX0_staysAfloat_33 ?_
      refine g_icmp_ge eX0_staysAfloat_35 (fun hb => ?_) (fun hb => ?_)
      · exact absurd hb (nI_ge (a := k) (b := 6) (by omega) (by omega))
      · refine g_ald0 eX0_staysAfloat_38 ?_
        refine g_getR (ci := 0) (j := 2) (by first | rfl | exact kd_key hi | exact kd_sh hi | exact kd_ya hi | exact kd_pr hq | exact kd_pk hq | exact kd_pf hq | exact kd_ps hq | exact kd_po hq | exact kd_pr hq2 | exact kd_pk hq2 | exact kd_pf hq2 | exact kd_ps hq2 | exact kd_po hq2) (by first | decide | (unfold N0; omega)) (Nat.le_of_ble_eq_true rfl) (Nat.le_of_ble_eq_true rfl) rfl (by first | rfl | exact r_key4 hi | exact r_sh0 hi | exact r_p0 hq | exact r_p1 hq | exact r_p2 hq | exact r_p3 hq | exact r_p0 hq2 | exact r_p1 hq2 | exact r_p2 hq2 | exact r_p3 hq2) fl_X0_17 eX0_staysAfloat_39 ?_
        refine g_ild5 eX0_staysAfloat_42 ?_
        refine g_callSi (m_codeOfIn _ (nI k)) cs_X0_40 eX0_staysAfloat_44 ⟨Nat.le_of_ble_eq_true rfl, Nat.le_of_ble_eq_true rfl⟩ rfl rfl (Nat.le_of_ble_eq_true rfl) (fun r u2 hr => ?_)
        obtain ⟨rfl, rfl⟩ := hr
        rw [in40 (by omega)]
        refine g_ild4 eX0_staysAfloat_47 ?_
        refine g_iast (by first | rfl | exact kd_key hi | exact kd_sh hi | exact kd_ya hi | exact kd_pr hq | exact kd_pk hq | exact kd_pf hq | exact kd_ps hq | exact kd_po hq | exact kd_pr hq2 | exact kd_pk hq2 | exact kd_pf hq2 | exact kd_ps hq2 | exact kd_po hq2) (by first | decide | (unfold N0; omega)) (vp_in_nI (n := 40 + k) (N := 46) (by omega) (by decide)) eX0_staysAfloat_49 ?_
        refine g_inc5 rfl (Nat.le_of_ble_eq_true rfl) rfl eX0_staysAfloat_50 ?_
        refine g_goto eX0_staysAfloat_53 ?_
        rw [nI_clamp (by omega), sI_sR, inc1]
        refine ih (k + 1) _ (by omega) (fun j hj => ?_)
        unfold upd
        by_cases hjk : j = k
        · rw [if_pos (by omega)]; exact hfr
        · rw [if_neg (by omega)]; exact hg j (by omega)
  have start : ¬ (0 < (st.1 (95 + 5 * q) 4).toInt ∧ (st.1 (83 + 3 * i) 0).toInt ≤ 2 * F) → G xp l xe (rmd (3)) xs xm xa xb xme xc D cy xad xA (YX0_staysAfloat.2.1, YX0_staysAfloat.1.cls, YX0_staysAfloat.2.2.1, YX0_staysAfloat.2.2.2) (Pi (fun (r : Int32) (u : St) => (∃ g, u = sR st 26 g) ∧ r = b2 (stays (gK st q) (gA st q) (gB st q) ((st.1 (95 + 5 * q) 4).toInt) ((st.1 (95 + 5 * q) 5).toInt).toNat F (st.1 (83 + 3 * i) 0).toInt x.toInt))) 28 ([some (.ref 24), some (.ref (95 + 5 * q)), some (.ref (83 + 3 * i)), some (.int x), some (.int fr), none, none]) ([]) (st) := by
    intro h0
    refine g_iconst (v := 0) (by decide) eX0_staysAfloat_28 ?_
    refine g_ist5 rfl (Nat.le_of_ble_eq_true rfl) eX0_staysAfloat_29 ?_
    have go := fill h0 6 0 (st.1 26) (by omega) (fun j hj => by omega)
    rw [sR_same] at go
    exact go
  refine g_ist4 rfl (Nat.le_of_ble_eq_true rfl) eX0_staysAfloat_8 ?_
  refine g_ald1 eX0_staysAfloat_10 ?_
  refine g_getI (ci := 6) (j := 4) (by first | rfl | exact kd_key hi | exact kd_sh hi | exact kd_ya hi | exact kd_pr hq | exact kd_pk hq | exact kd_pf hq | exact kd_ps hq | exact kd_po hq | exact kd_pr hq2 | exact kd_pk hq2 | exact kd_pf hq2 | exact kd_ps hq2 | exact kd_po hq2) (by first | decide | (unfold N0; omega)) (Nat.le_of_ble_eq_true rfl) (Nat.le_of_ble_eq_true rfl) rfl fl_X0_33 eX0_staysAfloat_11 ?_
  refine g_if_le eX0_staysAfloat_14 (fun hb => ?_) (fun hb => ?_)
  · rw [fa_le, z32] at hb
    exact start (by omega)
  · rw [fa_le, z32] at hb
    refine g_ald2 eX0_staysAfloat_17 ?_
    refine g_ild4 eX0_staysAfloat_18 ?_
    refine g_callVi (ci := 2) (m_drowns _ hi fr (by omega)) (by first | rfl | exact kd_key hi | exact kd_sh hi | exact kd_ya hi | exact kd_pr hq | exact kd_pk hq | exact kd_pf hq | exact kd_ps hq | exact kd_po hq | exact kd_pr hq2 | exact kd_pk hq2 | exact kd_pf hq2 | exact kd_ps hq2 | exact kd_po hq2) (by first | decide | (unfold N0; omega)) (Nat.le_of_ble_eq_true rfl) rfl cv_X0_36 eX0_staysAfloat_20 ⟨Nat.le_of_ble_eq_true rfl, Nat.le_of_ble_eq_true rfl⟩ rfl rfl (Nat.le_of_ble_eq_true rfl) (fun r3 st hr3 => ?_)
    obtain ⟨rfl, rfl⟩ := hr3
    refine g_if_eq eX0_staysAfloat_23 (fun hd => ?_) (fun hd => ?_)
    · rw [b2_eq0, hfr] at hd
      exact start (by omega)
    · rw [b2_ne0, hfr] at hd
      refine g_iconst (v := 0) (by decide) eX0_staysAfloat_26 ?_
      refine g_zret (ty := .boolean) rfl (by first | rfl | assumption) eX0_staysAfloat_27 ⟨_, rfl, ?_⟩
      try dsimp only
      refine ⟨⟨st.1 26, (sR_same st 26).symm⟩, b2_f (fun hst => hst.1 ⟨by omega, hd⟩)⟩
end DESK2
