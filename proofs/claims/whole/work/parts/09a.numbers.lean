/-! SealedSums$Numbers -/
section NUM
variable {l : Launch} {D : va_G} {cy : Nat → ClassId}
theorem z32 : (0 : Int32).toInt = 0 := rfl
theorem z64 : (0 : Int64).toInt = 0 := rfl
theorem o32 : (1 : Int32).toInt = 1 := rfl
theorem emod_of_tmod {a b : Int} (hb : 0 < b) (h : 0 ≤ a.tmod b) : a.tmod b = a % b := by
  rw [Int.tmod_eq_emod] at h ⊢
  split at h
  · simp_all
  · rename_i hh
    have := Int.emod_lt_of_pos a hb
    simp only [hh, if_false] at h ⊢
    omega
theorem emod_of_tmod' {a b : Int} (hb : 0 < b) (h : a.tmod b < 0) : a.tmod b + b = a % b := by
  rw [Int.tmod_eq_emod] at h ⊢
  split at h
  · rename_i hh
    have := Int.emod_nonneg a (b := b) (by omega)
    simp at h
    omega
  · rename_i hh
    simp only [hh, if_false] at h ⊢
    omega
/-- the rest of a long by a positive int -/
theorem m_rest (st : St) (x : Int64) (b : Int32) (hb : 1 ≤ b.toInt) : Mi l D cy 0 YX5_rest [.long x, .int b] st (fun r u => u = st ∧ r.toInt = x.toInt % b.toInt) := by
  have hne : ¬ b.toInt64 = 0 := fun e => by rw [fa_eq64, tl, z64] at e; omega
  have hv := rem64 (x := x) (y := b.toInt64) (by rw [tl]; omega)
  rw [tl] at hv
  have hbr := fb_rng b
  have hm := tmod_rng x.toInt b.toInt (by omega)
  refine M.ofG [some (.long x), none, some (.int b), none, none] (by decide) (Nat.le_of_ble_eq_true rfl) rfl ?_
  intro xp xe xs xm xa xb xme xc xad xA
  refine g_ild2 eX5_rest_0 ?_
  refine g_iconst (v := 1) (by decide) eX5_rest_1 ?_
  refine g_icmp_ge eX5_rest_2 (fun hb => ?_) (fun hb => ?_)
  · refine g_lld0 eX5_rest_7 ?_
    refine g_ild2 eX5_rest_8 ?_
    refine g_i2l eX5_rest_9 ?_
    refine g_lrem hne eX5_rest_10 ?_
    refine g_lst3 rfl (Nat.le_of_ble_eq_true rfl) eX5_rest_11 ?_
    generalize x - x / b.toInt64 * b.toInt64 = v at hv ⊢
    refine g_lld3 eX5_rest_12 ?_
    refine g_lconst (v := 0) rfl eX5_rest_13 ?_
    refine g_lcmp eX5_rest_14 ?_
    refine g_if_ge eX5_rest_15 (fun hb => ?_) (fun hb => ?_)
    · refine g_lld3 eX5_rest_25 ?_
      refine g_l2i eX5_rest_26 ?_
      refine g_iret rfl eX5_rest_27 ⟨_, rfl, ?_⟩
      try dsimp only
      rw [cmp_ge, z64] at hb
      refine ⟨rfl, ?_⟩
      rw [l2i (by omega) (by omega), hv]
      exact emod_of_tmod (by omega) (by omega)
    · refine g_lld3 eX5_rest_18 ?_
      refine g_ild2 eX5_rest_19 ?_
      refine g_i2l eX5_rest_20 ?_
      refine g_ladd eX5_rest_21 ?_
      refine g_goto eX5_rest_22 ?_
      refine g_l2i eX5_rest_26 ?_
      refine g_iret rfl eX5_rest_27 ⟨_, rfl, ?_⟩
      try dsimp only
      rw [cmp_ge, z64] at hb
      refine ⟨rfl, ?_⟩
      have e : (v + b.toInt64).toInt = v.toInt + b.toInt := by rw [fb_addL] <;> rw [tl] <;> omega
      rw [l2i (by omega) (by omega), e, hv]
      exact emod_of_tmod' (by omega) (by omega)
  · exfalso
    rw [fa_le, o32] at hb
    omega
/-- the stirring of two ints -/
def mixI (h v : Int32) : Int32 := ((h ^^^ v) * 1103515245 + 12345) ^^^ ((((h ^^^ v) * 1103515245 + 12345)).toUInt32 >>> ((15 : Int32).toUInt32 &&& Int32.toUInt32 31)).toInt32
/-- half of an int taken without sign -/
def halfI (x : Int32) : Int32 := (x.toUInt32 >>> ((1 : Int32).toUInt32 &&& Int32.toUInt32 31)).toInt32
theorem lot_ex : ∃ f : Int32 → Int32 → Int → Int, ∀ a b n, f a b n = (halfI (mixI (mixI a 7) b)).toInt % n := ⟨fun a b n => (halfI (mixI (mixI a 7) b)).toInt % n, fun _ _ _ => rfl⟩
/-- a lot, kept shut -/
noncomputable def lotF : Int32 → Int32 → Int → Int := Classical.choose lot_ex
theorem lotF_eq (a b : Int32) (n : Int) : lotF a b n = (halfI (mixI (mixI a 7) b)).toInt % n := Classical.choose_spec lot_ex a b n
theorem half_nonneg (x : Int32) : 0 ≤ (halfI x).toInt := by
  have h := pk_ushr x 1 1 (by decide)
  have h2 : (halfI x).toBitVec.toNat = x.toBitVec.toNat / 2 ^ 1 := h
  have h3 := x.toBitVec.isLt
  have h4 : (halfI x).toInt = ((halfI x).toBitVec.toNat : Int) := by
    show (halfI x).toBitVec.toInt = _
    rw [BitVec.toInt_eq_toNat_of_lt]
    rw [h2]; omega
  omega
theorem lot_rng (seed which : Int32) {n : Int} (hn : 0 < n) : 0 ≤ lotF seed which n ∧ lotF seed which n < n := by
  rw [lotF_eq]
  exact ⟨Int.emod_nonneg _ (by omega), Int.emod_lt_of_pos _ hn⟩
theorem m_stirred (st : St) (a b : Int32) : Mi l D cy 0 YX5_stirred [.int a, .int b] st (fun r u => u = st ∧ r = mixI a b) := by
  refine M.ofG [some (.int a), some (.int b), none] (by decide) (Nat.le_of_ble_eq_true rfl) rfl ?_
  intro xp xe xs xm xa xb xme xc xad xA
  refine g_ild0 eX5_stirred_0 ?_
  refine g_ild1 eX5_stirred_1 ?_
  refine g_ixor eX5_stirred_2 ?_
  refine g_ldc kc_X5_19 eX5_stirred_3 ?_
  refine g_imul eX5_stirred_5 ?_
  refine g_sipush (v := 12345) (by decide) eX5_stirred_6 ?_
  refine g_iadd eX5_stirred_9 ?_
  refine g_ist2 rfl (Nat.le_of_ble_eq_true rfl) eX5_stirred_10 ?_
  refine g_ild2 eX5_stirred_11 ?_
  refine g_ild2 eX5_stirred_12 ?_
  refine g_bipush (v := 15) (by decide) eX5_stirred_13 ?_
  refine g_iushr eX5_stirred_15 ?_
  refine g_ixor eX5_stirred_16 ?_
  exact g_iret rfl eX5_stirred_17 ⟨_, rfl, ⟨rfl, rfl⟩⟩
theorem m_drawn (st : St) (a b n : Int32) (hn : 1 ≤ n.toInt) : Mi l D cy 1 YX5_drawn [.int a, .int b, .int n] st (fun r u => u = st ∧ r.toInt = lotF a b n.toInt) := by
  refine M.ofG [some (.int a), some (.int b), some (.int n)] (by decide) (Nat.le_of_ble_eq_true rfl) rfl ?_
  intro xp xe xs xm xa xb xme xc xad xA
  refine g_ild0 eX5_drawn_0 ?_
  refine g_bipush (v := 7) (by decide) eX5_drawn_1 ?_
  refine g_callSi (m_stirred st a 7) cs_X5_9 eX5_drawn_3 ⟨Nat.le_of_ble_eq_true rfl, Nat.le_of_ble_eq_true rfl⟩ rfl rfl (Nat.le_of_ble_eq_true rfl) (fun r1 u1 h1 => ?_)
  obtain ⟨rfl, rfl⟩ := h1
  refine g_ild1 eX5_drawn_6 ?_
  refine g_callSi (m_stirred _ (mixI a 7) b) cs_X5_9 eX5_drawn_7 ⟨Nat.le_of_ble_eq_true rfl, Nat.le_of_ble_eq_true rfl⟩ rfl rfl (Nat.le_of_ble_eq_true rfl) (fun r1 u1 h1 => ?_)
  obtain ⟨rfl, rfl⟩ := h1
  refine g_iconst (v := 1) (by decide) eX5_drawn_10 ?_
  refine g_iushr eX5_drawn_11 ?_
  refine g_i2l eX5_drawn_12 ?_
  refine g_ild2 eX5_drawn_13 ?_
  refine g_callSi (m_rest _ _ n hn) cs_X5_15 eX5_drawn_14 ⟨Nat.le_of_ble_eq_true rfl, Nat.le_of_ble_eq_true rfl⟩ rfl rfl (Nat.le_of_ble_eq_true rfl) (fun r1 u1 h1 => ?_)
  obtain ⟨rfl, h1⟩ := h1
  rw [tl] at h1
  exact g_iret rfl eX5_drawn_17 ⟨_, rfl, ⟨rfl, by rw [lotF_eq]; exact h1⟩⟩
/-- a work's number, on C's by a modulus or on plain numbers by T -/
def workF (k a b by_ : Int) : Int := if k = 1 ∨ k = 4 then (a + b) % by_ else if k = 2 then (a - b) % by_ else (a * b) % by_
theorem mul_rng {a b : Int} (ha : -2147483648 ≤ a ∧ a < 2147483648) (hb : -2147483648 ≤ b ∧ b < 2147483648) : -4611686018427387904 ≤ a * b ∧ a * b ≤ 4611686018427387904 := by
  have h1 : a.natAbs ≤ 2147483648 := by omega
  have h2 : b.natAbs ≤ 2147483648 := by omega
  have h3 : (a * b).natAbs ≤ 2147483648 * 2147483648 := by rw [Int.natAbs_mul]; exact Nat.mul_le_mul h1 h2
  omega
theorem addW (a b : Int32) : (a.toInt64 + b.toInt64).toInt = a.toInt + b.toInt := by
  have h1 := fb_rng a
  have h2 := fb_rng b
  rw [fb_addL] <;> rw [tl, tl] <;> omega
theorem subW (a b : Int32) : (a.toInt64 - b.toInt64).toInt = a.toInt - b.toInt := by
  have h1 := fb_rng a
  have h2 := fb_rng b
  rw [fb_subL] <;> rw [tl, tl] <;> omega
theorem mulW (a b : Int32) : (a.toInt64 * b.toInt64).toInt = a.toInt * b.toInt := by
  have h1 := mul_rng (fb_rng a) (fb_rng b)
  rw [fb_mulL] <;> rw [tl, tl] <;> omega
theorem m_worked (st : St) (k a b n : Int32) (hn : 1 ≤ n.toInt) : Mi l D cy 1 YX5_worked [.int k, .int a, .int b, .int n] st (fun r u => u = st ∧ r.toInt = workF k.toInt a.toInt b.toInt n.toInt) := by
  refine M.ofG [some (.int k), some (.int a), some (.int b), some (.int n)] (by decide) (Nat.le_of_ble_eq_true rfl) rfl ?_
  intro xp xe xs xm xa xb xme xc xad xA
  refine g_ild0 eX5_worked_0 ?_
  have hx : (k.toInt < 1 ∨ 4 < k.toInt) ∨ k.toInt = 1 ∨ k.toInt = 2 ∨ k.toInt = 3 ∨ k.toInt = 4 := by omega
  rcases hx with hx | hx | hx | hx | hx
  · refine g_tableOut (tgt := 52) eX5_worked_1 (hx) (by decide) ?_
    refine g_ild1 eX5_worked_52 ?_
    refine g_i2l eX5_worked_53 ?_
    refine g_ild2 eX5_worked_54 ?_
    refine g_i2l eX5_worked_55 ?_
    refine g_lmul eX5_worked_56 ?_
    refine g_ild3 eX5_worked_57 ?_
    refine g_callSi (m_rest _ _ n hn) cs_X5_15 eX5_worked_58 ⟨Nat.le_of_ble_eq_true rfl, Nat.le_of_ble_eq_true rfl⟩ rfl rfl (Nat.le_of_ble_eq_true rfl) (fun r1 u1 h1 => ?_)
    obtain ⟨rfl, h1⟩ := h1
    refine g_iret rfl eX5_worked_61 ⟨_, rfl, ?_⟩
    try dsimp only
    rw [mulW] at h1
    exact ⟨rfl, by rw [h1]; unfold workF; rw [if_neg (by omega), if_neg (by omega)]⟩
  · refine g_tableIn (off := 31) (tgt := 32) eX5_worked_1 (by omega) (by omega) (by rw [hx]; rfl) (by decide) ?_
    refine g_ild1 eX5_worked_32 ?_
    refine g_i2l eX5_worked_33 ?_
    refine g_ild2 eX5_worked_34 ?_
    refine g_i2l eX5_worked_35 ?_
    refine g_ladd eX5_worked_36 ?_
    refine g_ild3 eX5_worked_37 ?_
    refine g_callSi (m_rest _ _ n hn) cs_X5_15 eX5_worked_38 ⟨Nat.le_of_ble_eq_true rfl, Nat.le_of_ble_eq_true rfl⟩ rfl rfl (Nat.le_of_ble_eq_true rfl) (fun r1 u1 h1 => ?_)
    obtain ⟨rfl, h1⟩ := h1
    refine g_iret rfl eX5_worked_41 ⟨_, rfl, ?_⟩
    try dsimp only
    rw [addW] at h1
    exact ⟨rfl, by rw [h1]; unfold workF; rw [if_pos (by omega)]⟩
  · refine g_tableIn (off := 41) (tgt := 42) eX5_worked_1 (by omega) (by omega) (by rw [hx]; rfl) (by decide) ?_
    refine g_ild1 eX5_worked_42 ?_
    refine g_i2l eX5_worked_43 ?_
    refine g_ild2 eX5_worked_44 ?_
    refine g_i2l eX5_worked_45 ?_
    refine g_lsub eX5_worked_46 ?_
    refine g_ild3 eX5_worked_47 ?_
    refine g_callSi (m_rest _ _ n hn) cs_X5_15 eX5_worked_48 ⟨Nat.le_of_ble_eq_true rfl, Nat.le_of_ble_eq_true rfl⟩ rfl rfl (Nat.le_of_ble_eq_true rfl) (fun r1 u1 h1 => ?_)
    obtain ⟨rfl, h1⟩ := h1
    refine g_iret rfl eX5_worked_51 ⟨_, rfl, ?_⟩
    try dsimp only
    rw [subW] at h1
    exact ⟨rfl, by rw [h1]; unfold workF; rw [if_neg (by omega), if_pos (by omega)]⟩
  · refine g_tableIn (off := 51) (tgt := 52) eX5_worked_1 (by omega) (by omega) (by rw [hx]; rfl) (by decide) ?_
    refine g_ild1 eX5_worked_52 ?_
    refine g_i2l eX5_worked_53 ?_
    refine g_ild2 eX5_worked_54 ?_
    refine g_i2l eX5_worked_55 ?_
    refine g_lmul eX5_worked_56 ?_
    refine g_ild3 eX5_worked_57 ?_
    refine g_callSi (m_rest _ _ n hn) cs_X5_15 eX5_worked_58 ⟨Nat.le_of_ble_eq_true rfl, Nat.le_of_ble_eq_true rfl⟩ rfl rfl (Nat.le_of_ble_eq_true rfl) (fun r1 u1 h1 => ?_)
    obtain ⟨rfl, h1⟩ := h1
    refine g_iret rfl eX5_worked_61 ⟨_, rfl, ?_⟩
    try dsimp only
    rw [mulW] at h1
    exact ⟨rfl, by rw [h1]; unfold workF; rw [if_neg (by omega), if_neg (by omega)]⟩
  · refine g_tableIn (off := 31) (tgt := 32) eX5_worked_1 (by omega) (by omega) (by rw [hx]; rfl) (by decide) ?_
    refine g_ild1 eX5_worked_32 ?_
    refine g_i2l eX5_worked_33 ?_
    refine g_ild2 eX5_worked_34 ?_
    refine g_i2l eX5_worked_35 ?_
    refine g_ladd eX5_worked_36 ?_
    refine g_ild3 eX5_worked_37 ?_
    refine g_callSi (m_rest _ _ n hn) cs_X5_15 eX5_worked_38 ⟨Nat.le_of_ble_eq_true rfl, Nat.le_of_ble_eq_true rfl⟩ rfl rfl (Nat.le_of_ble_eq_true rfl) (fun r1 u1 h1 => ?_)
    obtain ⟨rfl, h1⟩ := h1
    refine g_iret rfl eX5_worked_41 ⟨_, rfl, ?_⟩
    try dsimp only
    rw [addW] at h1
    exact ⟨rfl, by rw [h1]; unfold workF; rw [if_pos (by omega)]⟩
theorem emod_mul_mod (a b n : Int) : (a % n * b) % n = (a * b) % n := by rw [Int.mul_emod, Int.emod_emod, ← Int.mul_emod]
theorem mul_emod_r (a b n : Int) : (a * (b % n)) % n = (a * b) % n := by rw [Int.mul_emod, Int.emod_emod, ← Int.mul_emod]
theorem pow_emod (a n : Int) : ∀ k : Nat, ((a % n) ^ k) % n = (a ^ k) % n
  | 0 => by simp
  | k + 1 => by rw [Int.pow_succ, Int.pow_succ, mul_emod_r, Int.mul_emod, pow_emod a n k, ← Int.mul_emod]
theorem sq_pow (a : Int) (k : Nat) : (a * a) ^ k = a ^ (2 * k) := by rw [Int.pow_mul, show a ^ 2 = a * a by rw [Int.pow_succ, Int.pow_succ, Int.pow_zero, Int.one_mul]]
theorem bit0 (w : Int32) (h : 0 ≤ w.toInt) : (w &&& 1).toInt = w.toInt % 2 := by
  obtain ⟨j, hj, rfl⟩ := nI_of (x := w) (by rw [fa_lt, z32]; omega)
  rw [show (1 : Int32) = nI (2 ^ 1 - 1) from rfl, fa_mask, nI_toInt (by omega), nI_toInt hj]
  omega
theorem shr1 (w : Int32) (h : 0 ≤ w.toInt) : (w >>> ((1 : Int32) &&& 31)).toInt = w.toInt / 2 := by
  have h1 := pk_shr w ((1 : Int32) &&& 31) 1 (by decide)
  rw [h1, Int.shiftRight_eq_div_pow]
  rfl
set_option maxHeartbeats 4000000 in
/-- a power by a modulus -/
theorem m_power (st : St) (a k n : Int32) (hn : 1 ≤ n.toInt) (hk : 0 ≤ k.toInt) : Mi l D cy 1 YX5_power [.int a, .int k, .int n] st (fun r u => u = st ∧ r.toInt = (a.toInt ^ k.toInt.toNat) % n.toInt) := by
  refine M.ofG [some (.int a), some (.int k), some (.int n), none, none, none] (by decide) (Nat.le_of_ble_eq_true rfl) rfl ?_
  intro xp xe xs xm xa xb xme xc xad xA
  have loop : ∀ (f : Nat) (r q w : Int32), w.toInt.toNat ≤ f → 0 ≤ w.toInt → (r.toInt * q.toInt ^ w.toInt.toNat) % n.toInt = (a.toInt ^ k.toInt.toNat) % n.toInt → r.toInt % n.toInt = r.toInt → G xp l xe (rmd (1)) xs xm xa xb xme xc D cy xad xA (YX5_power.2.1, YX5_power.1.cls, YX5_power.2.2.1, YX5_power.2.2.2) (Pi (fun (r : Int32) (u : St) => u = st ∧ r.toInt = (a.toInt ^ k.toInt.toNat) % n.toInt)) 17 ([some (.int a), some (.int k), some (.int n), some (.int r), some (.int q), some (.int w)]) ([]) (st) := by
    intro f
    induction f with
    | zero =>
      intro r q w hf hw hr hm
      refine g_ild5 eX5_power_17 ?_
      refine g_if_le eX5_power_19 (fun hb => ?_) (fun hb => ?_)
      · refine g_ild3 eX5_power_63 ?_
        refine g_iret rfl eX5_power_64 ⟨_, rfl, ?_⟩
        try dsimp only
        have e : w.toInt.toNat = 0 := by omega
        rw [e, Int.pow_zero, Int.mul_one, hm] at hr
        exact ⟨rfl, hr⟩
      · exfalso
        rw [fa_le, z32] at hb
        omega
    | succ f ih =>
      intro r q w hf hw hr hm
      refine g_ild5 eX5_power_17 ?_
      refine g_if_le eX5_power_19 (fun hb => ?_) (fun hb => ?_)
      · refine g_ild3 eX5_power_63 ?_
        refine g_iret rfl eX5_power_64 ⟨_, rfl, ?_⟩
        try dsimp only
        rw [fa_le, z32] at hb
        have e : w.toInt.toNat = 0 := by omega
        rw [e, Int.pow_zero, Int.mul_one, hm] at hr
        exact ⟨rfl, hr⟩
      · rw [fa_le, z32] at hb
        have tail : ∀ r2 : Int32, (r2.toInt * (q.toInt * q.toInt) ^ (w.toInt.toNat / 2)) % n.toInt = (a.toInt ^ k.toInt.toNat) % n.toInt → r2.toInt % n.toInt = r2.toInt → G xp l xe (rmd (1)) xs xm xa xb xme xc D cy xad xA (YX5_power.2.1, YX5_power.1.cls, YX5_power.2.2.1, YX5_power.2.2.2) (Pi (fun (r : Int32) (u : St) => u = st ∧ r.toInt = (a.toInt ^ k.toInt.toNat) % n.toInt)) 41 ([some (.int a), some (.int k), some (.int n), some (.int r2), some (.int q), some (.int w)]) ([]) (st) := by
          intro r2 hr2 hm2
          refine g_ild4 eX5_power_41 ?_
          refine g_i2l eX5_power_43 ?_
          refine g_ild4 eX5_power_44 ?_
          refine g_i2l eX5_power_46 ?_
          refine g_lmul eX5_power_47 ?_
          refine g_ild2 eX5_power_48 ?_
          refine g_callSi (m_rest _ _ n hn) cs_X5_15 eX5_power_49 ⟨Nat.le_of_ble_eq_true rfl, Nat.le_of_ble_eq_true rfl⟩ rfl rfl (Nat.le_of_ble_eq_true rfl) (fun q2 u1 h1 => ?_)
          obtain ⟨rfl, h1⟩ := h1
          rw [mulW] at h1
          refine g_ist4 rfl (Nat.le_of_ble_eq_true rfl) eX5_power_52 ?_
          refine g_ild5 eX5_power_54 ?_
          refine g_iconst (v := 1) (by decide) eX5_power_56 ?_
          refine g_ishr eX5_power_57 ?_
          refine g_ist5 rfl (Nat.le_of_ble_eq_true rfl) eX5_power_58 ?_
          refine g_goto eX5_power_60 ?_
          have hs := shr1 w hw
          refine ih r2 q2 _ (by omega) (by omega) ?_ hm2
          have e2 : (w >>> ((1 : Int32) &&& 31)).toInt.toNat = w.toInt.toNat / 2 := by omega
          rw [e2, h1, ← mul_emod_r, pow_emod, mul_emod_r]
          exact hr2
        have hbit := bit0 w hw
        refine g_ild5 eX5_power_22 ?_
        refine g_iconst (v := 1) (by decide) eX5_power_24 ?_
        refine g_iand eX5_power_25 ?_
        refine g_iconst (v := 1) (by decide) eX5_power_26 ?_
        refine g_icmp_ne eX5_power_27 (fun h2 => ?_) (fun h2 => ?_)
        · rw [fa_eq, o32, hbit] at h2
          refine tail r ?_ hm
          rw [sq_pow, show 2 * (w.toInt.toNat / 2) = w.toInt.toNat by omega]
          exact hr
        · have h3 : w.toInt % 2 = 1 := by
            have : (w &&& 1).toInt = (1 : Int32).toInt := by rw [h2]
            rw [hbit] at this
            exact this
          refine g_ild3 eX5_power_30 ?_
          refine g_i2l eX5_power_31 ?_
          refine g_ild4 eX5_power_32 ?_
          refine g_i2l eX5_power_34 ?_
          refine g_lmul eX5_power_35 ?_
          refine g_ild2 eX5_power_36 ?_
          refine g_callSi (m_rest _ _ n hn) cs_X5_15 eX5_power_37 ⟨Nat.le_of_ble_eq_true rfl, Nat.le_of_ble_eq_true rfl⟩ rfl rfl (Nat.le_of_ble_eq_true rfl) (fun r2 u1 h1 => ?_)
          obtain ⟨rfl, h1⟩ := h1
          rw [mulW] at h1
          refine g_ist3 rfl (Nat.le_of_ble_eq_true rfl) eX5_power_40 ?_
          refine tail r2 ?_ (by rw [h1, Int.emod_emod])
          rw [h1, emod_mul_mod, sq_pow, Int.mul_assoc, ← hr]
          congr 2
          rw [show w.toInt.toNat = 2 * (w.toInt.toNat / 2) + 1 by omega, Int.pow_succ, Int.mul_comm]
          congr 3
          omega
  refine g_lconst (v := 1) rfl eX5_power_0 ?_
  refine g_ild2 eX5_power_1 ?_
  refine g_callSi (m_rest _ 1 n hn) cs_X5_15 eX5_power_2 ⟨Nat.le_of_ble_eq_true rfl, Nat.le_of_ble_eq_true rfl⟩ rfl rfl (Nat.le_of_ble_eq_true rfl) (fun r1 u1 h1 => ?_)
  obtain ⟨rfl, h1⟩ := h1
  refine g_ist3 rfl (Nat.le_of_ble_eq_true rfl) eX5_power_5 ?_
  refine g_ild0 eX5_power_6 ?_
  refine g_i2l eX5_power_7 ?_
  refine g_ild2 eX5_power_8 ?_
  refine g_callSi (m_rest _ _ n hn) cs_X5_15 eX5_power_9 ⟨Nat.le_of_ble_eq_true rfl, Nat.le_of_ble_eq_true rfl⟩ rfl rfl (Nat.le_of_ble_eq_true rfl) (fun q1 u1 h2 => ?_)
  obtain ⟨rfl, h2⟩ := h2
  rw [tl] at h2
  have e1 : (1 : Int64).toInt = 1 := rfl
  rw [e1] at h1
  refine g_ist4 rfl (Nat.le_of_ble_eq_true rfl) eX5_power_12 ?_
  refine g_ild1 eX5_power_14 ?_
  refine g_ist5 rfl (Nat.le_of_ble_eq_true rfl) eX5_power_15 ?_
  refine loop _ r1 q1 k (Nat.le_refl _) hk ?_ (by rw [h1, Int.emod_emod])
  rw [h1, h2, emod_mul_mod, Int.one_mul, pow_emod]
theorem m_quotient (st : St) (a b : Int32) (hb : 1 ≤ b.toInt) (ha : 0 ≤ a.toInt) : Mi l D cy 0 YX5_quotient [.int a, .int b] st (fun r u => u = st ∧ r.toInt = a.toInt / b.toInt) := by
  have hne : ¬ b = 0 := fun e => by rw [fa_eq, z32] at e; omega
  refine M.ofG [some (.int a), some (.int b)] (by decide) (Nat.le_of_ble_eq_true rfl) rfl ?_
  intro xp xe xs xm xa xb xme xc xad xA
  refine g_ild1 eX5_quotient_0 ?_
  refine g_iconst (v := 1) (by decide) eX5_quotient_1 ?_
  refine g_icmp_ge eX5_quotient_2 (fun h => ?_) (fun h => ?_)
  · refine g_ild0 eX5_quotient_9 ?_
    refine g_ild1 eX5_quotient_10 ?_
    refine g_idiv hne eX5_quotient_11 ?_
    refine g_iret rfl eX5_quotient_12 ⟨_, rfl, ?_⟩
    try dsimp only
    refine ⟨rfl, ?_⟩
    rw [Int32.toInt_div_of_ne_right _ _ (fun e => by rw [fa_eq] at e; have : (-1 : Int32).toInt = -1 := rfl; omega)]
    exact Int.tdiv_eq_ediv_of_nonneg ha
  · exfalso
    rw [fa_le, o32] at h
    omega
def boundF (k a b : Int) : Int := min 1000000 (if k = 3 ∨ k = 5 then a * (b.natAbs : Int) else a + (b.natAbs : Int))
theorem abs_l (b : Int32) : (if 0 < b.toInt64 then b.toInt64 else -b.toInt64).toInt = (b.toInt.natAbs : Int) := by
  have hr := fb_rng b
  split
  · rename_i h
    rw [fa_lt64, tl, z64] at h
    rw [tl]; omega
  · rename_i h
    rw [fa_lt64, tl, z64] at h
    rw [Int64.toInt_neg, tl, fb_bmodL] <;> omega
theorem min_l (x : Int64) : (if x < 1000000 then x else 1000000).toInt = min 1000000 x.toInt := by
  have e : (1000000 : Int64).toInt = 1000000 := rfl
  split
  · rename_i h; rw [fa_lt64, e] at h; omega
  · rename_i h; rw [fa_lt64, e] at h; rw [e]; omega
theorem m_workedBound (st : St) (k a b : Int32) (ha : 0 ≤ a.toInt) : Mi l D cy 1 YX5_workedBound [.int k, .int a, .int b] st (fun r u => u = st ∧ r.toInt = boundF k.toInt a.toInt b.toInt) := by
  refine M.ofG [some (.int k), some (.int a), some (.int b), none, none, none] (by decide) (Nat.le_of_ble_eq_true rfl) rfl ?_
  intro xp xe xs xm xa xb xme xc xad xA
  have habs := abs_l b
  have hra := fb_rng a
  have hrb := fb_rng b
  refine g_ild2 eX5_workedBound_0 ?_
  refine g_i2l eX5_workedBound_1 ?_
  refine g_labs mw_X5_20 ⟨Nat.le_of_ble_eq_true rfl, Nat.le_of_ble_eq_true rfl⟩ (Nat.le_of_ble_eq_true rfl) eX5_workedBound_2 ?_
  refine g_lst3 rfl (Nat.le_of_ble_eq_true rfl) eX5_workedBound_5 ?_
  generalize (if 0 < b.toInt64 then b.toInt64 else -b.toInt64) = w at habs ⊢
  have hmul : (a.toInt64 * w).toInt = a.toInt * (b.toInt.natAbs : Int) := by
    have h1 : a.toInt * (b.toInt.natAbs : Int) ≤ 2147483648 * 2147483648 := Int.mul_le_mul (by omega) (by omega) (by omega) (by omega)
    have h0 : 0 ≤ a.toInt * (b.toInt.natAbs : Int) := Int.mul_nonneg ha (by omega)
    rw [fb_mulL] <;> rw [tl, habs] <;> omega
  have hadd : (a.toInt64 + w).toInt = a.toInt + (b.toInt.natAbs : Int) := by
    rw [fb_addL] <;> rw [tl, habs] <;> omega
  have fin : ∀ (z : Int64) (f : Int32), z.toInt = (if k.toInt = 3 ∨ k.toInt = 5 then a.toInt * (b.toInt.natAbs : Int) else a.toInt + (b.toInt.natAbs : Int)) → 0 ≤ z.toInt → G xp l xe (rmd (1)) xs xm xa xb xme xc D cy xad xA (YX5_workedBound.2.1, YX5_workedBound.1.cls, YX5_workedBound.2.2.1, YX5_workedBound.2.2.2) (Pi (fun (r : Int32) (u : St) => u = st ∧ r.toInt = boundF k.toInt a.toInt b.toInt)) 42 ([some (.int k), some (.int a), some (.int b), some (.long w), none, some (.int f)]) ([.long z, .long 1000000]) (st) := by
    intro z f hz hz0
    refine g_lmin mw_X5_28 ⟨Nat.le_of_ble_eq_true rfl, Nat.le_of_ble_eq_true rfl⟩ (Nat.le_of_ble_eq_true rfl) eX5_workedBound_42 ?_
    refine g_l2i eX5_workedBound_45 ?_
    refine g_iret rfl eX5_workedBound_46 ⟨_, rfl, ?_⟩
    try dsimp only
    refine ⟨rfl, ?_⟩
    have e := min_l z
    rw [l2i (by omega) (by omega), e, hz]
    rfl
  have yes : (k.toInt = 3 ∨ k.toInt = 5) → G xp l xe (rmd (1)) xs xm xa xb xme xc D cy xad xA (YX5_workedBound.2.1, YX5_workedBound.1.cls, YX5_workedBound.2.2.1, YX5_workedBound.2.2.2) (Pi (fun (r : Int32) (u : St) => u = st ∧ r.toInt = boundF k.toInt a.toInt b.toInt)) 16 ([some (.int k), some (.int a), some (.int b), some (.long w), none, none]) ([]) (st) := by
    intro hk
    refine g_iconst (v := 1) (by decide) eX5_workedBound_16 ?_
    refine g_goto eX5_workedBound_17 ?_
    refine g_ist5 rfl (Nat.le_of_ble_eq_true rfl) eX5_workedBound_21 ?_
    refine g_ldc2 kc_X5_26 eX5_workedBound_23 ?_
    refine g_ild5 eX5_workedBound_26 ?_
    refine g_if_eq eX5_workedBound_28 (fun h => ?_) (fun h => ?_)
    · exfalso
      rw [fa_eq] at h
      exact absurd h (by decide)
    · refine g_ild1 eX5_workedBound_31 ?_
      refine g_i2l eX5_workedBound_32 ?_
      refine g_lld3 eX5_workedBound_33 ?_
      refine g_lmul eX5_workedBound_34 ?_
      refine g_goto eX5_workedBound_35 ?_
      exact fin _ _ (by rw [if_pos hk]; exact hmul) (by rw [hmul]; exact Int.mul_nonneg ha (by omega))
  have no : ¬ (k.toInt = 3 ∨ k.toInt = 5) → G xp l xe (rmd (1)) xs xm xa xb xme xc D cy xad xA (YX5_workedBound.2.1, YX5_workedBound.1.cls, YX5_workedBound.2.2.1, YX5_workedBound.2.2.2) (Pi (fun (r : Int32) (u : St) => u = st ∧ r.toInt = boundF k.toInt a.toInt b.toInt)) 20 ([some (.int k), some (.int a), some (.int b), some (.long w), none, none]) ([]) (st) := by
    intro hk
    refine g_iconst (v := 0) (by decide) eX5_workedBound_20 ?_
    refine g_ist5 rfl (Nat.le_of_ble_eq_true rfl) eX5_workedBound_21 ?_
    refine g_ldc2 kc_X5_26 eX5_workedBound_23 ?_
    refine g_ild5 eX5_workedBound_26 ?_
    refine g_if_eq eX5_workedBound_28 (fun h => ?_) (fun h => ?_)
    · refine g_ild1 eX5_workedBound_38 ?_
      refine g_i2l eX5_workedBound_39 ?_
      refine g_lld3 eX5_workedBound_40 ?_
      refine g_ladd eX5_workedBound_41 ?_
      exact fin _ _ (by rw [if_neg hk]; exact hadd) (by rw [hadd]; omega)
    · exact absurd rfl h
  have e3 : (3 : Int32).toInt = 3 := rfl
  have e5 : (5 : Int32).toInt = 5 := rfl
  refine g_ild0 eX5_workedBound_6 ?_
  refine g_iconst (v := 3) (by decide) eX5_workedBound_7 ?_
  refine g_icmp_eq eX5_workedBound_8 (fun h => ?_) (fun h => ?_)
  · rw [fa_eq, e3] at h
    exact yes (Or.inl h)
  · rw [fa_eq, e3] at h
    refine g_ild0 eX5_workedBound_11 ?_
    refine g_iconst (v := 5) (by decide) eX5_workedBound_12 ?_
    refine g_icmp_ne eX5_workedBound_13 (fun h2 => ?_) (fun h2 => ?_)
    · rw [fa_eq, e5] at h2
      exact no (by omega)
    · rw [fa_eq, e5] at h2
      exact yes (Or.inr h2)
/-- choices out of n, as they are counted -/
def chN (n r : Nat) : Nat → Nat
  | 0 => 1
  | k + 1 => chN n r k * (n - r + (k + 1)) / (k + 1)
theorem chN_le : ∀ n, n < 21 → ∀ r, r < 21 → r ≤ n → ∀ k, k < 21 → k ≤ r → chN n r k ≤ 200000 := by decide +kernel
def chF (n r : Int) : Int := if n < r then 0 else (chN n.toNat r.toNat r.toNat : Int)
set_option maxHeartbeats 4000000 in
theorem m_choices (st : St) (n r : Int32) (hn : 0 ≤ n.toInt ∧ n.toInt ≤ 20) (hr : 0 ≤ r.toInt ∧ r.toInt ≤ 20) : Mi l D cy 0 YX5_choices [.int n, .int r] st (fun z u => u = st ∧ z.toInt = chF n.toInt r.toInt) := by
  refine M.ofG [some (.int n), some (.int r), none, none, none] (by decide) (Nat.le_of_ble_eq_true rfl) rfl ?_
  intro xp xe xs xm xa xb xme xc xad xA
  refine g_ild1 eX5_choices_0 ?_
  refine g_ild0 eX5_choices_1 ?_
  refine g_icmp_le eX5_choices_2 (fun h => ?_) (fun h => ?_)
  · rw [fa_le] at h
    have loop : ∀ (f : Nat) (w : Int64) (i : Int32), r.toInt + 1 - i.toInt = (f : Int) → 1 ≤ i.toInt → w.toInt = (chN n.toInt.toNat r.toInt.toNat (i.toInt - 1).toNat : Int) → G xp l xe (rmd (0)) xs xm xa xb xme xc D cy xad xA (YX5_choices.2.1, YX5_choices.1.cls, YX5_choices.2.2.1, YX5_choices.2.2.2) (Pi (fun (z : Int32) (u : St) => u = st ∧ z.toInt = chF n.toInt r.toInt)) 12 ([some (.int n), some (.int r), some (.long w), none, some (.int i)]) ([]) (st) := by
      intro f
      induction f with
      | zero =>
        intro w i hf hi hw
        refine g_ild4 eX5_choices_12 ?_
        refine g_ild1 eX5_choices_14 ?_
        refine g_icmp_gt eX5_choices_15 (fun h2 => ?_) (fun h2 => ?_)
        · refine g_lld2 eX5_choices_38 ?_
          refine g_l2i eX5_choices_39 ?_
          refine g_iret rfl eX5_choices_40 ⟨_, rfl, ?_⟩
          try dsimp only
          refine ⟨rfl, ?_⟩
          have hb := chN_le n.toInt.toNat (by omega) r.toInt.toNat (by omega) (by omega) r.toInt.toNat (by omega) (Nat.le_refl _)
          rw [show (i.toInt - 1).toNat = r.toInt.toNat by omega] at hw
          rw [l2i (by omega) (by omega), hw]
          unfold chF
          rw [if_neg (by omega)]
        · exfalso
          rw [fa_lt] at h2
          omega
      | succ f ih =>
        intro w i hf hi hw
        refine g_ild4 eX5_choices_12 ?_
        refine g_ild1 eX5_choices_14 ?_
        refine g_icmp_gt eX5_choices_15 (fun h2 => ?_) (fun h2 => ?_)
        · exfalso
          rw [fa_lt] at h2
          omega
        · have hb := chN_le n.toInt.toNat (by omega) r.toInt.toNat (by omega) (by omega) (i.toInt - 1).toNat (by omega) (by omega)
          have hs : (n - r).toInt = n.toInt - r.toInt := fb_subI (by omega) (by omega)
          have ha : (n - r + i).toInt = n.toInt - r.toInt + i.toInt := by rw [fb_addI] <;> rw [hs] <;> omega
          have hm : (w * (n - r + i).toInt64).toInt = w.toInt * (n.toInt - r.toInt + i.toInt) := by
            have q1 : w.toInt * (n.toInt - r.toInt + i.toInt) ≤ 200000 * 41 := Int.mul_le_mul (by omega) (by omega) (by omega) (by omega)
            have q0 : 0 ≤ w.toInt * (n.toInt - r.toInt + i.toInt) := Int.mul_nonneg (by omega) (by omega)
            rw [fb_mulL] <;> rw [tl, ha] <;> omega
          have q0 : 0 ≤ w.toInt * (n.toInt - r.toInt + i.toInt) := Int.mul_nonneg (by omega) (by omega)
          refine g_lld2 eX5_choices_18 ?_
          refine g_ild0 eX5_choices_19 ?_
          refine g_ild1 eX5_choices_20 ?_
          refine g_isub eX5_choices_21 ?_
          refine g_ild4 eX5_choices_22 ?_
          refine g_iadd eX5_choices_24 ?_
          refine g_i2l eX5_choices_25 ?_
          refine g_lmul eX5_choices_26 ?_
          refine g_ild4 eX5_choices_27 ?_
          refine g_i2l eX5_choices_29 ?_
          refine g_ldiv (fun e => by rw [fa_eq64, tl, z64] at e; omega) eX5_choices_30 ?_
          refine g_lst2 rfl (Nat.le_of_ble_eq_true rfl) eX5_choices_31 ?_
          have hi1 : (i + Int32.ofInt 1).toInt = i.toInt + 1 := by
            have : (Int32.ofInt 1).toInt = 1 := rfl
            rw [fb_addI] <;> rw [this] <;> omega
          refine g_inc4 rfl (Nat.le_of_ble_eq_true rfl) rfl eX5_choices_32 ?_
          refine g_goto eX5_choices_35 ?_
          refine ih _ _ (by rw [hi1]; omega) (by rw [hi1]; omega) ?_
          rw [Int64.toInt_div_of_ne_right _ _ (fun e => by rw [fa_eq64, tl] at e; have : (-1 : Int64).toInt = -1 := rfl; omega), hm, tl, Int.tdiv_eq_ediv_of_nonneg q0, hi1, show (i.toInt + 1 - 1).toNat = (i.toInt - 1).toNat + 1 by omega]
          show _ = ((chN _ _ _ * (n.toInt.toNat - r.toInt.toNat + ((i.toInt - 1).toNat + 1)) / ((i.toInt - 1).toNat + 1) : Nat) : Int)
          rw [hw]
          push_cast
          congr 1
          · congr 1
            omega
          · omega
    refine g_lconst (v := 1) rfl eX5_choices_7 ?_
    refine g_lst2 rfl (Nat.le_of_ble_eq_true rfl) eX5_choices_8 ?_
    refine g_iconst (v := 1) (by decide) eX5_choices_9 ?_
    refine g_ist4 rfl (Nat.le_of_ble_eq_true rfl) eX5_choices_10 ?_
    exact loop r.toInt.toNat 1 1 (by rw [o32]; omega) (by rw [o32]; omega) rfl
  · refine g_iconst (v := 0) (by decide) eX5_choices_5 ?_
    refine g_iret rfl eX5_choices_6 ⟨_, rfl, ?_⟩
    try dsimp only
    rw [fa_le] at h
    refine ⟨rfl, ?_⟩
    unfold chF
    rw [if_pos (by omega)]
    rfl
end NUM
