/-! SealedSumsModel: works and openings. 's1' is the state behind 'thrown = 0' -/
section MODB
variable {l : Launch} {D : va_G} {cy : Nat → ClassId}
/-- what the reference' rows keep to -/
def mOK (st : St) (nk n : Nat) : Prop := st.1 31 53 = nI nk ∧ nk ≤ 4 ∧ st.1 31 58 = nI n ∧ n ≤ 60 ∧ tOK (st.1 31 17) ∧ (∀ i, i < nk → mkOK st i) ∧ (∀ a, a < n → ∃ i, i < nk ∧ st.1 67 a = nI i) ∧ (∀ a, a < n → 0 ≤ (st.2 69 a).toInt ∧ (st.2 69 a).toInt ≤ 1000000) ∧ ∀ a, a < n → 0 ≤ (st.2 68 a).toInt ∧ (st.2 68 a).toInt < 100000000
theorem mul_rng8 {a b : Int} (ha : -100000000 ≤ a ∧ a ≤ 100000000) (hb : -100000000 ≤ b ∧ b ≤ 100000000) : -10000000000000000 ≤ a * b ∧ a * b ≤ 10000000000000000 := by
  have h1 : a.natAbs ≤ 100000000 := by omega
  have h2 : b.natAbs ≤ 100000000 := by omega
  have h3 : (a * b).natAbs ≤ 100000000 * 100000000 := by rw [Int.natAbs_mul]; exact Nat.mul_le_mul h1 h2
  omega
/-- behind makes -/
def mkS (st : St) (c b : Int64) : St := sL (sL st 31 63 c) 31 64 b
set_option maxHeartbeats 4000000 in
theorem w_makes (st : St) (x : Int32) (k : Nat) (hk : k < 4) (ho : mkOK st k) (a ba b bb : Int64) (hx : 1 ≤ x.toInt ∧ x.toInt ≤ 5) (h1 : -100000000 ≤ a.toInt ∧ a.toInt ≤ 100000000) (h2 : 0 ≤ ba.toInt ∧ ba.toInt ≤ 1000000) (h3 : -100000000 ≤ b.toInt ∧ b.toInt ≤ 100000000) (h4 : 0 ≤ bb.toInt ∧ bb.toInt ≤ 1000000) (h5 : x.toInt = 4 → 0 ≤ b.toInt) : Mv l D cy 2 YX12_makes [.ref 31, .int x, .int (nI k), .long a, .long ba, .long b, .long bb] st (fun u => ∃ c d : Int64, c.toInt = workF x.toInt a.toInt b.toInt ((st.1 63 k).toInt * (st.1 64 k).toInt) ∧ d.toInt = boundF x.toInt ba.toInt (if x.toInt = 4 ∨ x.toInt = 5 then b.toInt else bb.toInt) ∧ u = mkS st c d) := by
  have eadd : (a + b).toInt = a.toInt + b.toInt := fb_addL (by omega) (by omega)
  have esub : (a - b).toInt = a.toInt - b.toInt := fb_subL (by omega) (by omega)
  have hm := mul_rng8 h1 h3
  have emul : (a * b).toInt = a.toInt * b.toInt := fb_mulL (by omega) (by omega)
  have ebb : (ba + bb).toInt = ba.toInt + bb.toInt := fb_addL (by omega) (by omega)
  have ebk : (ba + b).toInt = ba.toInt + b.toInt := fb_addL (by omega) (by omega)
  have hm2 := mul_rng8 (a := ba.toInt) (b := bb.toInt) (by omega) (by omega)
  have emb : (ba * bb).toInt = ba.toInt * bb.toInt := fb_mulL (by omega) (by omega)
  refine M.ofG [some (.ref 31), some (.int x), some (.int (nI k)), some (.long a), none, some (.long ba), none, some (.long b), none, some (.long bb), none] (by decide) (Nat.le_of_ble_eq_true rfl) rfl ?_
  intro xp xe xs xm xa xb xme xc xad xA
  refine g_ild1 eX12_makes_0 ?_
  have hx9 : x.toInt = 1 ∨ x.toInt = 2 ∨ x.toInt = 3 ∨ x.toInt = 4 ∨ x.toInt = 5 := by omega
  rcases hx9 with hx9 | hx9 | hx9 | hx9 | hx9
  · refine g_tableIn (off := 35) (tgt := 36) eX12_makes_1 (by omega) (by omega) (by rw [hx9]; rfl) (by decide) ?_
    refine g_ald0 eX12_makes_36 ?_
    refine g_ald0 eX12_makes_37 ?_
    refine g_lld3 eX12_makes_38 ?_
    refine g_lld7 eX12_makes_39 ?_
    refine g_ladd eX12_makes_41 ?_
    refine g_ild2 eX12_makes_42 ?_
    refine g_callVl (ci := 11) (w_rest _ _ k hk ho) rfl (Nat.le_of_ble_eq_true rfl) (Nat.le_of_ble_eq_true rfl) rfl cv_X12_401 eX12_makes_43 ⟨Nat.le_of_ble_eq_true rfl, Nat.le_of_ble_eq_true rfl⟩ rfl rfl (Nat.le_of_ble_eq_true rfl) (fun c st hc => ?_)
    obtain ⟨rfl, hc⟩ := hc
    refine g_putL (ci := 11) (j := 63) rfl rfl (Nat.le_of_ble_eq_true rfl) (Nat.le_of_ble_eq_true rfl) (Nat.le_of_ble_eq_true rfl) rfl fl_X12_429 eX12_makes_46 ?_
    refine g_ald0 eX12_makes_49 ?_
    refine g_lld5 eX12_makes_50 ?_
    refine g_lld9 eX12_makes_52 ?_
    refine g_ladd eX12_makes_54 ?_
    refine g_callSl (w_held _ _) cs_X12_411 eX12_makes_55 ⟨Nat.le_of_ble_eq_true rfl, Nat.le_of_ble_eq_true rfl⟩ rfl rfl (Nat.le_of_ble_eq_true rfl) (fun d u hd => ?_)
    obtain ⟨rfl, hd⟩ := hd
    refine g_putL (ci := 11) (j := 64) rfl rfl (Nat.le_of_ble_eq_true rfl) (Nat.le_of_ble_eq_true rfl) (Nat.le_of_ble_eq_true rfl) rfl fl_X12_433 eX12_makes_58 ?_
    refine g_vret rfl eX12_makes_61 ⟨rfl, ?_⟩
    try dsimp only
    refine ⟨c, d, by rw [hc, eadd, hx9]; rfl, ?_, rfl⟩
    rw [hd, ebb, hx9]
    unfold boundF
    rw [if_neg (by decide), if_neg (by decide)]
    congr 2
    omega
  · refine g_tableIn (off := 61) (tgt := 62) eX12_makes_1 (by omega) (by omega) (by rw [hx9]; rfl) (by decide) ?_
    refine g_ald0 eX12_makes_62 ?_
    refine g_ald0 eX12_makes_63 ?_
    refine g_lld3 eX12_makes_64 ?_
    refine g_lld7 eX12_makes_65 ?_
    refine g_lsub eX12_makes_67 ?_
    refine g_ild2 eX12_makes_68 ?_
    refine g_callVl (ci := 11) (w_rest _ _ k hk ho) rfl (Nat.le_of_ble_eq_true rfl) (Nat.le_of_ble_eq_true rfl) rfl cv_X12_401 eX12_makes_69 ⟨Nat.le_of_ble_eq_true rfl, Nat.le_of_ble_eq_true rfl⟩ rfl rfl (Nat.le_of_ble_eq_true rfl) (fun c st hc => ?_)
    obtain ⟨rfl, hc⟩ := hc
    refine g_putL (ci := 11) (j := 63) rfl rfl (Nat.le_of_ble_eq_true rfl) (Nat.le_of_ble_eq_true rfl) (Nat.le_of_ble_eq_true rfl) rfl fl_X12_429 eX12_makes_72 ?_
    refine g_ald0 eX12_makes_75 ?_
    refine g_lld5 eX12_makes_76 ?_
    refine g_lld9 eX12_makes_78 ?_
    refine g_ladd eX12_makes_80 ?_
    refine g_callSl (w_held _ _) cs_X12_411 eX12_makes_81 ⟨Nat.le_of_ble_eq_true rfl, Nat.le_of_ble_eq_true rfl⟩ rfl rfl (Nat.le_of_ble_eq_true rfl) (fun d u hd => ?_)
    obtain ⟨rfl, hd⟩ := hd
    refine g_putL (ci := 11) (j := 64) rfl rfl (Nat.le_of_ble_eq_true rfl) (Nat.le_of_ble_eq_true rfl) (Nat.le_of_ble_eq_true rfl) rfl fl_X12_433 eX12_makes_84 ?_
    refine g_vret rfl eX12_makes_87 ⟨rfl, ?_⟩
    try dsimp only
    refine ⟨c, d, by rw [hc, esub, hx9]; rfl, ?_, rfl⟩
    rw [hd, ebb, hx9]
    unfold boundF
    rw [if_neg (by decide), if_neg (by decide)]
    congr 2
    omega
  · refine g_tableIn (off := 152) (tgt := 153) eX12_makes_1 (by omega) (by omega) (by rw [hx9]; rfl) (by decide) ?_
    refine g_ald0 eX12_makes_153 ?_
    refine g_ald0 eX12_makes_154 ?_
    refine g_lld3 eX12_makes_155 ?_
    refine g_lld7 eX12_makes_156 ?_
    refine g_lmul eX12_makes_158 ?_
    refine g_ild2 eX12_makes_159 ?_
    refine g_callVl (ci := 11) (w_rest _ _ k hk ho) rfl (Nat.le_of_ble_eq_true rfl) (Nat.le_of_ble_eq_true rfl) rfl cv_X12_401 eX12_makes_160 ⟨Nat.le_of_ble_eq_true rfl, Nat.le_of_ble_eq_true rfl⟩ rfl rfl (Nat.le_of_ble_eq_true rfl) (fun c st hc => ?_)
    obtain ⟨rfl, hc⟩ := hc
    refine g_putL (ci := 11) (j := 63) rfl rfl (Nat.le_of_ble_eq_true rfl) (Nat.le_of_ble_eq_true rfl) (Nat.le_of_ble_eq_true rfl) rfl fl_X12_429 eX12_makes_163 ?_
    refine g_ald0 eX12_makes_166 ?_
    refine g_lld5 eX12_makes_167 ?_
    refine g_lld9 eX12_makes_169 ?_
    refine g_lmul eX12_makes_171 ?_
    refine g_callSl (w_held _ _) cs_X12_411 eX12_makes_172 ⟨Nat.le_of_ble_eq_true rfl, Nat.le_of_ble_eq_true rfl⟩ rfl rfl (Nat.le_of_ble_eq_true rfl) (fun d u hd => ?_)
    obtain ⟨rfl, hd⟩ := hd
    refine g_putL (ci := 11) (j := 64) rfl rfl (Nat.le_of_ble_eq_true rfl) (Nat.le_of_ble_eq_true rfl) (Nat.le_of_ble_eq_true rfl) rfl fl_X12_433 eX12_makes_175 ?_
    refine g_vret rfl eX12_makes_178 ⟨rfl, ?_⟩
    try dsimp only
    refine ⟨c, d, by rw [hc, emul, hx9]; rfl, ?_, rfl⟩
    rw [hd, emb, hx9]
    unfold boundF
    rw [if_pos (by decide), if_neg (by decide)]
    congr 2
    omega
  · refine g_tableIn (off := 87) (tgt := 88) eX12_makes_1 (by omega) (by omega) (by rw [hx9]; rfl) (by decide) ?_
    refine g_ald0 eX12_makes_88 ?_
    refine g_ald0 eX12_makes_89 ?_
    refine g_lld3 eX12_makes_90 ?_
    refine g_lld7 eX12_makes_91 ?_
    refine g_ladd eX12_makes_93 ?_
    refine g_ild2 eX12_makes_94 ?_
    refine g_callVl (ci := 11) (w_rest _ _ k hk ho) rfl (Nat.le_of_ble_eq_true rfl) (Nat.le_of_ble_eq_true rfl) rfl cv_X12_401 eX12_makes_95 ⟨Nat.le_of_ble_eq_true rfl, Nat.le_of_ble_eq_true rfl⟩ rfl rfl (Nat.le_of_ble_eq_true rfl) (fun c st hc => ?_)
    obtain ⟨rfl, hc⟩ := hc
    refine g_putL (ci := 11) (j := 63) rfl rfl (Nat.le_of_ble_eq_true rfl) (Nat.le_of_ble_eq_true rfl) (Nat.le_of_ble_eq_true rfl) rfl fl_X12_429 eX12_makes_98 ?_
    refine g_ald0 eX12_makes_101 ?_
    refine g_lld5 eX12_makes_102 ?_
    refine g_lld7 eX12_makes_104 ?_
    refine g_ladd eX12_makes_106 ?_
    refine g_callSl (w_held _ _) cs_X12_411 eX12_makes_107 ⟨Nat.le_of_ble_eq_true rfl, Nat.le_of_ble_eq_true rfl⟩ rfl rfl (Nat.le_of_ble_eq_true rfl) (fun d u hd => ?_)
    obtain ⟨rfl, hd⟩ := hd
    refine g_putL (ci := 11) (j := 64) rfl rfl (Nat.le_of_ble_eq_true rfl) (Nat.le_of_ble_eq_true rfl) (Nat.le_of_ble_eq_true rfl) rfl fl_X12_433 eX12_makes_110 ?_
    refine g_vret rfl eX12_makes_113 ⟨rfl, ?_⟩
    try dsimp only
    refine ⟨c, d, by rw [hc, eadd, hx9]; rfl, ?_, rfl⟩
    have hb0 := h5 hx9
    rw [hd, ebk, hx9]
    unfold boundF
    rw [if_neg (by decide), if_pos (by decide)]
    congr 2
    omega
  · refine g_tableIn (off := 113) (tgt := 114) eX12_makes_1 (by omega) (by omega) (by rw [hx9]; rfl) (by decide) ?_
    have fin : ∀ (c z : Int64), c.toInt = workF x.toInt a.toInt b.toInt ((st.1 63 k).toInt * (st.1 64 k).toInt) → z.toInt = (b.toInt.natAbs : Int) → G xp l xe (rmd 2) xs xm xa xb xme xc D cy xad xA (YX12_makes.2.1, YX12_makes.1.cls, YX12_makes.2.2.1, YX12_makes.2.2.2) (Pv fun u => ∃ c d : Int64, c.toInt = workF x.toInt a.toInt b.toInt ((st.1 63 k).toInt * (st.1 64 k).toInt) ∧ d.toInt = boundF x.toInt ba.toInt (if x.toInt = 4 ∨ x.toInt = 5 then b.toInt else bb.toInt) ∧ u = mkS st c d) 145 [some (.ref 31), some (.int x), some (.int (nI k)), some (.long a), none, some (.long ba), none, some (.long b), none, some (.long bb), none] [.long z, .long ba, .ref 31] (sL st 31 63 c) := by
      intro c z hc hz
      have hm3 := mul_rng8 (a := ba.toInt) (b := z.toInt) (by omega) (by omega)
      have emz : (ba * z).toInt = ba.toInt * z.toInt := fb_mulL (by omega) (by omega)
      refine g_lmul eX12_makes_145 ?_
      refine g_callSl (w_held _ _) cs_X12_411 eX12_makes_146 ⟨Nat.le_of_ble_eq_true rfl, Nat.le_of_ble_eq_true rfl⟩ rfl rfl (Nat.le_of_ble_eq_true rfl) (fun d u hd => ?_)
      obtain ⟨rfl, hd⟩ := hd
      refine g_putL (ci := 11) (j := 64) rfl rfl (Nat.le_of_ble_eq_true rfl) (Nat.le_of_ble_eq_true rfl) (Nat.le_of_ble_eq_true rfl) rfl fl_X12_433 eX12_makes_149 ?_
      refine g_vret rfl eX12_makes_152 ⟨rfl, ?_⟩
      try dsimp only
      refine ⟨c, d, hc, ?_, rfl⟩
      rw [hd, emz, hz, hx9]
      unfold boundF
      rw [if_pos (by decide), if_pos (by decide)]
    refine g_ald0 eX12_makes_114 ?_
    refine g_ald0 eX12_makes_115 ?_
    refine g_lld3 eX12_makes_116 ?_
    refine g_lld7 eX12_makes_117 ?_
    refine g_lmul eX12_makes_119 ?_
    refine g_ild2 eX12_makes_120 ?_
    refine g_callVl (ci := 11) (w_rest _ _ k hk ho) rfl (Nat.le_of_ble_eq_true rfl) (Nat.le_of_ble_eq_true rfl) rfl cv_X12_401 eX12_makes_121 ⟨Nat.le_of_ble_eq_true rfl, Nat.le_of_ble_eq_true rfl⟩ rfl rfl (Nat.le_of_ble_eq_true rfl) (fun c st hc => ?_)
    obtain ⟨rfl, hc⟩ := hc
    have hcw : c.toInt = workF x.toInt a.toInt b.toInt ((st.1 63 k).toInt * (st.1 64 k).toInt) := by rw [hc, emul, hx9]; rfl
    refine g_putL (ci := 11) (j := 63) rfl rfl (Nat.le_of_ble_eq_true rfl) (Nat.le_of_ble_eq_true rfl) (Nat.le_of_ble_eq_true rfl) rfl fl_X12_429 eX12_makes_124 ?_
    refine g_ald0 eX12_makes_127 ?_
    refine g_lld5 eX12_makes_128 ?_
    refine g_lld7 eX12_makes_130 ?_
    refine g_lconst (v := 0) rfl eX12_makes_132 ?_
    refine g_lcmp eX12_makes_133 ?_
    refine g_if_ge eX12_makes_134 (fun hb => ?_) (fun hb => ?_)
    · rw [cmp_ge, z64] at hb
      refine g_lld7 eX12_makes_143 ?_
      exact fin c b hcw (by omega)
    · rw [cmp_ge, z64] at hb
      refine g_lld7 eX12_makes_137 ?_
      refine g_lneg eX12_makes_139 ?_
      refine g_goto eX12_makes_140 ?_
      exact fin c (-b) hcw (by rw [Int64.toInt_neg, fb_bmodL] <;> omega)
theorem w_isDrowned (st : St) (k : Nat) (hk : k < 4) (b : Int64) (hb : 0 ≤ b.toInt ∧ b.toInt ≤ 1000000) : Mi l D cy 0 YX12_isDrowned [.ref 31, .int (nI k), .long b] st (fun r u => u = st ∧ r = b2 ((st.1 63 k).toInt ≤ 2 * b.toInt)) := by
  have hc : (nI k).toNatClampNeg = k := nI_clamp (by omega)
  have e2 : (2 : Int64).toInt = 2 := rfl
  have em : ((2 : Int64) * b).toInt = 2 * b.toInt := by rw [fb_mulL] <;> rw [e2] <;> omega
  refine M.ofG [some (.ref 31), some (.int (nI k)), some (.long b), none] (by decide) (Nat.le_of_ble_eq_true rfl) rfl ?_
  intro xp xe xs xm xa xb xme xc xad xA
  refine g_ldc2 kc_X12_367 eX12_isDrowned_0 ?_
  refine g_lld2 eX12_isDrowned_3 ?_
  refine g_lmul eX12_isDrowned_4 ?_
  refine g_ald0 eX12_isDrowned_5 ?_
  refine g_getR (ci := 11) (j := 54) rfl (Nat.le_of_ble_eq_true rfl) (Nat.le_of_ble_eq_true rfl) (Nat.le_of_ble_eq_true rfl) rfl rfl fl_X12_109 eX12_isDrowned_6 ?_
  refine g_ild1 eX12_isDrowned_9 ?_
  refine g_iald rfl (Nat.le_of_ble_eq_true rfl) (vp_in_nI (n := k) (N := 4) hk (by decide)) eX12_isDrowned_10 ?_
  refine g_i2l eX12_isDrowned_11 ?_
  refine g_lcmp eX12_isDrowned_12 ?_
  rw [hc]
  refine g_if_lt eX12_isDrowned_13 (fun h => ?_) (fun h => ?_)
  · rw [cmp_lt, em, tl] at h
    refine g_iconst (v := 0) (by decide) eX12_isDrowned_20 ?_
    exact g_zret (ty := .boolean) rfl (by first | rfl | assumption) eX12_isDrowned_21 ⟨_, rfl, ⟨rfl, b2_f (by omega)⟩⟩
  · rw [cmp_lt, em, tl] at h
    refine g_iconst (v := 1) (by decide) eX12_isDrowned_16 ?_
    refine g_goto eX12_isDrowned_17 ?_
    exact g_zret (ty := .boolean) rfl (by first | rfl | assumption) eX12_isDrowned_21 ⟨_, rfl, ⟨rfl, b2_t (by omega)⟩⟩
theorem w_noiseOf (st : St) (c p0 : Int64) (hc : 0 ≤ c.toInt) (hp : 101 ≤ p0.toInt ∧ p0.toInt ≤ 99999) (hodd : p0.toInt % 2 = 1) : Ml l D cy 0 YX12_noiseOf [.long c, .long p0] st (fun r u => u = st ∧ r.toInt = noiseF c.toInt p0.toInt) := by
  have hv := rem64 (x := c) (y := p0) (by omega)
  rw [Int.tmod_eq_emod_of_nonneg hc] at hv
  have h1 := Int.emod_nonneg c.toInt (b := p0.toInt) (by omega)
  have h2 := Int.emod_lt_of_pos c.toInt (b := p0.toInt) (by omega)
  have e2 : (2 : Int64).toInt = 2 := rfl
  refine M.ofG [some (.long c), none, some (.long p0), none, none, none] (by decide) (Nat.le_of_ble_eq_true rfl) rfl ?_
  intro xp xe xs xm xa xb xme xc xad xA
  refine g_lld0 eX12_noiseOf_0 ?_
  refine g_lld2 eX12_noiseOf_1 ?_
  refine g_lrem (fun e => by rw [fa_eq64, z64] at e; omega) eX12_noiseOf_2 ?_
  refine g_lst4 rfl (Nat.le_of_ble_eq_true rfl) eX12_noiseOf_3 ?_
  generalize c - c / p0 * p0 = w at hv ⊢
  have em : ((2 : Int64) * w).toInt = 2 * w.toInt := by rw [fb_mulL] <;> rw [e2] <;> omega
  refine g_ldc2 kc_X12_367 eX12_noiseOf_5 ?_
  refine g_lld4 eX12_noiseOf_8 ?_
  refine g_lmul eX12_noiseOf_10 ?_
  refine g_lld2 eX12_noiseOf_11 ?_
  refine g_lcmp eX12_noiseOf_12 ?_
  refine g_if_ge eX12_noiseOf_13 (fun h => ?_) (fun h => ?_)
  · rw [cmp_ge, em] at h
    refine g_lld4 eX12_noiseOf_21 ?_
    refine g_lld2 eX12_noiseOf_23 ?_
    refine g_lsub eX12_noiseOf_24 ?_
    refine g_lret rfl eX12_noiseOf_25 ⟨_, rfl, ?_⟩
    try dsimp only
    refine ⟨rfl, ?_⟩
    unfold noiseF
    rw [if_pos (by omega), fb_subL] <;> omega
  · rw [cmp_ge, em] at h
    refine g_lld4 eX12_noiseOf_16 ?_
    refine g_goto eX12_noiseOf_18 ?_
    refine g_lret rfl eX12_noiseOf_25 ⟨_, rfl, ?_⟩
    try dsimp only
    refine ⟨rfl, ?_⟩
    unfold noiseF
    rw [if_neg (by omega)]
    exact hv
theorem w_opensTo (st : St) (k : Nat) (hk : k < 4) (ho : mkOK st k) (hodd : (st.1 63 k).toInt % 2 = 1) (ht : tOK (st.1 31 17)) (c : Int64) (hc : 0 ≤ c.toInt) : Mi l D cy 1 YX12_opensTo [.ref 31, .int (nI k), .long c] st (fun r u => u = st ∧ r.toInt = noiseF c.toInt (st.1 63 k).toInt % (st.1 31 17).toInt) := by
  have hck : (nI k).toNatClampNeg = k := nI_clamp (by omega)
  have hp := ho.1
  have hp2 := ho.2.1
  have hnr := noise_rng c.toInt (p := (st.1 63 k).toInt) hp
  refine M.ofG [some (.ref 31), some (.int (nI k)), some (.long c), none, none, none] (by decide) (Nat.le_of_ble_eq_true rfl) rfl ?_
  intro xp xe xs xm xa xb xme xc xad xA
  refine g_lld2 eX12_opensTo_0 ?_
  refine g_ald0 eX12_opensTo_1 ?_
  refine g_getR (ci := 11) (j := 54) rfl (Nat.le_of_ble_eq_true rfl) (Nat.le_of_ble_eq_true rfl) (Nat.le_of_ble_eq_true rfl) rfl rfl fl_X12_109 eX12_opensTo_2 ?_
  refine g_ild1 eX12_opensTo_5 ?_
  refine g_iald rfl (Nat.le_of_ble_eq_true rfl) (vp_in_nI (n := k) (N := 4) hk (by decide)) eX12_opensTo_6 ?_
  refine g_i2l eX12_opensTo_7 ?_
  rw [hck]
  refine g_callSl (w_noiseOf _ c _ hc (by rw [tl]; omega) (by rw [tl]; exact hodd)) cs_X12_443 eX12_opensTo_8 ⟨Nat.le_of_ble_eq_true rfl, Nat.le_of_ble_eq_true rfl⟩ rfl rfl (Nat.le_of_ble_eq_true rfl) (fun z st hz => ?_)
  obtain ⟨rfl, hz⟩ := hz
  rw [tl] at hz
  have hv := rem64 (x := z) (y := (st.1 31 17).toInt64) (by rw [tl]; omega)
  rw [tl, hz] at hv
  have hm := tmod_rng (noiseF c.toInt (st.1 63 k).toInt) (st.1 31 17).toInt (by omega)
  generalize noiseF c.toInt (st.1 63 k).toInt = N at hv hm ⊢
  refine g_ald0 eX12_opensTo_11 ?_
  refine g_getI (ci := 11) (j := 17) rfl (Nat.le_of_ble_eq_true rfl) (Nat.le_of_ble_eq_true rfl) (Nat.le_of_ble_eq_true rfl) rfl fl_X12_174 eX12_opensTo_12 ?_
  refine g_i2l eX12_opensTo_15 ?_
  refine g_lrem (fun e => by rw [fa_eq64, tl, z64] at e; omega) eX12_opensTo_16 ?_
  refine g_lst4 rfl (Nat.le_of_ble_eq_true rfl) eX12_opensTo_17 ?_
  generalize z - z / (st.1 31 17).toInt64 * (st.1 31 17).toInt64 = w at hv ⊢
  refine g_lld4 eX12_opensTo_19 ?_
  refine g_lconst (v := 0) rfl eX12_opensTo_21 ?_
  refine g_lcmp eX12_opensTo_22 ?_
  refine g_if_ge eX12_opensTo_23 (fun h => ?_) (fun h => ?_)
  · rw [cmp_ge, z64] at h
    refine g_lld4 eX12_opensTo_37 ?_
    refine g_l2i eX12_opensTo_39 ?_
    refine g_iret rfl eX12_opensTo_40 ⟨_, rfl, ?_⟩
    try dsimp only
    refine ⟨rfl, ?_⟩
    rw [l2i (by omega) (by omega), hv]
    exact emod_of_tmod (by omega) (by omega)
  · rw [cmp_ge, z64] at h
    refine g_lld4 eX12_opensTo_26 ?_
    refine g_ald0 eX12_opensTo_28 ?_
    refine g_getI (ci := 11) (j := 17) rfl (Nat.le_of_ble_eq_true rfl) (Nat.le_of_ble_eq_true rfl) (Nat.le_of_ble_eq_true rfl) rfl fl_X12_174 eX12_opensTo_29 ?_
    refine g_i2l eX12_opensTo_32 ?_
    refine g_ladd eX12_opensTo_33 ?_
    refine g_goto eX12_opensTo_34 ?_
    refine g_l2i eX12_opensTo_39 ?_
    refine g_iret rfl eX12_opensTo_40 ⟨_, rfl, ?_⟩
    try dsimp only
    refine ⟨rfl, ?_⟩
    have e : (w + (st.1 31 17).toInt64).toInt = w.toInt + (st.1 31 17).toInt := by rw [fb_addL] <;> rw [tl] <;> omega
    rw [l2i (by omega) (by omega), e, hv]
    exact emod_of_tmod' (by omega) (by omega)
end MODB
