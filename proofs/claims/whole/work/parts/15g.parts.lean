/-! parts: the model's numbers -/
section PARTG
variable {l : Launch} {D : va_G} {cy : Nat → ClassId}
theorem rem64p {x y : Int64} (hx : 0 ≤ x.toInt) (hy : 0 < y.toInt) : (x - x / y * y).toInt = x.toInt % y.toInt := by
  rw [rem64 (by omega), Int.tmod_eq_emod_of_nonneg hx]
theorem two64 : (2 : Int64).toInt = 2 := rfl
theorem one64 : (1 : Int64).toInt = 1 := rfl
theorem P64 : (100003 : Int64).toInt = 100003 := rfl
theorem mulp64 {a b p0 : Int64} (ha : 0 ≤ a.toInt ∧ a.toInt ≤ 200000) (hb : 0 ≤ b.toInt ∧ b.toInt ≤ 200000) (hp : 0 < p0.toInt) : (a * b - a * b / p0 * p0).toInt = a.toInt * b.toInt % p0.toInt := by
  have h := mul_rng8 (a := a.toInt) (b := b.toInt) (by omega) (by omega)
  have h0 : 0 ≤ a.toInt * b.toInt := Int.mul_nonneg ha.1 hb.1
  have e : (a * b).toInt = a.toInt * b.toInt := fb_mulL (by omega) (by omega)
  rw [rem64p (by rw [e]; exact h0) hp, e]
theorem div2_64 {x : Int64} (hx : 0 ≤ x.toInt) : (x / 2).toInt = x.toInt / 2 := by
  rw [Int64.toInt_div_of_ne_right _ _ (by decide), two64, Int.tdiv_eq_ediv_of_nonneg hx]
theorem w_turned (st : St) (v p0 : Int64) (hv : 0 ≤ v.toInt ∧ v.toInt ≤ 200000) (hp : 2 ≤ p0.toInt ∧ p0.toInt ≤ 200000) : Ml l D cy 0 YX12_turned [.long v, .long p0] st (fun r u => u = st ∧ r.toInt = v.toInt ^ (p0.toInt - 2).toNat % p0.toInt) := by
  refine M.ofG [some (.long v), none, some (.long p0), none, none, none, none, none, none, none] (by decide) (Nat.le_of_ble_eq_true rfl) rfl ?_
  intro xp xe xs xm xa xb xme xc xad xA
  have loop : ∀ (f : Nat) (r q w : Int64), w.toInt.toNat ≤ f → 0 ≤ w.toInt → (0 ≤ q.toInt ∧ q.toInt ≤ 200000) → (r.toInt * q.toInt ^ w.toInt.toNat) % p0.toInt = v.toInt ^ (p0.toInt - 2).toNat % p0.toInt → r.toInt % p0.toInt = r.toInt → G xp l xe (rmd (0)) xs xm xa xb xme xc D cy xad xA (YX12_turned.2.1, YX12_turned.1.cls, YX12_turned.2.2.1, YX12_turned.2.2.2) (Pl (fun (r : Int64) (u : St) => u = st ∧ r.toInt = v.toInt ^ (p0.toInt - 2).toNat % p0.toInt)) 13 ([some (.long v), none, some (.long p0), none, some (.long r), none, some (.long q), none, some (.long w), none]) ([]) (st) := by
    intro f
    induction f with
    | zero =>
      intro r q w hf hw hq hr hm
      refine g_lld8 eX12_turned_13 ?_
      refine g_lconst (v := 0) rfl eX12_turned_15 ?_
      refine g_lcmp eX12_turned_16 ?_
      refine g_if_le eX12_turned_17 (fun hb => ?_) (fun hb => ?_)
      · refine g_lld4 eX12_turned_60 ?_
        refine g_lret rfl eX12_turned_62 ⟨_, rfl, ?_⟩
        try dsimp only
        have e : w.toInt.toNat = 0 := by omega
        rw [e, Int.pow_zero, Int.mul_one, hm] at hr
        exact ⟨rfl, hr⟩
      · exfalso
        rw [cmp_le, z64] at hb
        omega
    | succ f ih =>
      intro r q w hf hw hq hr hm
      have hr0 : 0 ≤ r.toInt ∧ r.toInt < p0.toInt := by
        rw [← hm]
        exact ⟨Int.emod_nonneg _ (by omega), Int.emod_lt_of_pos _ (by omega)⟩
      refine g_lld8 eX12_turned_13 ?_
      refine g_lconst (v := 0) rfl eX12_turned_15 ?_
      refine g_lcmp eX12_turned_16 ?_
      refine g_if_le eX12_turned_17 (fun hb => ?_) (fun hb => ?_)
      · refine g_lld4 eX12_turned_60 ?_
        refine g_lret rfl eX12_turned_62 ⟨_, rfl, ?_⟩
        try dsimp only
        rw [cmp_le, z64] at hb
        have e : w.toInt.toNat = 0 := by omega
        rw [e, Int.pow_zero, Int.mul_one, hm] at hr
        exact ⟨rfl, hr⟩
      · rw [cmp_le, z64] at hb
        have hne : ¬ p0 = 0 := by rw [fa_eq64, z64]; omega
        have tail : ∀ r2 : Int64, (r2.toInt * (q.toInt * q.toInt) ^ (w.toInt.toNat / 2)) % p0.toInt = v.toInt ^ (p0.toInt - 2).toNat % p0.toInt → r2.toInt % p0.toInt = r2.toInt → G xp l xe (rmd (0)) xs xm xa xb xme xc D cy xad xA (YX12_turned.2.1, YX12_turned.1.cls, YX12_turned.2.2.1, YX12_turned.2.2.2) (Pl (fun (r : Int64) (u : St) => u = st ∧ r.toInt = v.toInt ^ (p0.toInt - 2).toNat % p0.toInt)) 40 ([some (.long v), none, some (.long p0), none, some (.long r2), none, some (.long q), none, some (.long w), none]) ([]) (st) := by
          intro r2 hr2 hm2
          have h1 := mulp64 (p0 := p0) hq hq (by omega)
          have hd := div2_64 hw
          refine g_lld6 eX12_turned_40 ?_
          refine g_lld6 eX12_turned_42 ?_
          refine g_lmul eX12_turned_44 ?_
          refine g_lld2 eX12_turned_45 ?_
          refine g_lrem hne eX12_turned_46 ?_
          refine g_lst6 rfl (Nat.le_of_ble_eq_true rfl) eX12_turned_47 ?_
          refine g_lld8 eX12_turned_49 ?_
          refine g_ldc2 kc_X12_367 eX12_turned_51 ?_
          refine g_ldiv (by decide) eX12_turned_54 ?_
          refine g_lst8 rfl (Nat.le_of_ble_eq_true rfl) eX12_turned_55 ?_
          refine g_goto eX12_turned_57 ?_
          have hq0 : 0 ≤ (q * q - q * q / p0 * p0).toInt ∧ (q * q - q * q / p0 * p0).toInt < p0.toInt := by
            rw [h1]
            exact ⟨Int.emod_nonneg _ (by omega), Int.emod_lt_of_pos _ (by omega)⟩
          refine ih r2 _ _ (by omega) (by omega) (by omega) ?_ hm2
          have e2 : (w / 2).toInt.toNat = w.toInt.toNat / 2 := by omega
          rw [e2, h1, ← mul_emod_r, pow_emod, mul_emod_r]
          exact hr2
        have hbit : (w - w / 2 * 2).toInt = w.toInt % 2 := rem64p hw (by decide)
        refine g_lld8 eX12_turned_20 ?_
        refine g_ldc2 kc_X12_367 eX12_turned_22 ?_
        refine g_lrem (by decide) eX12_turned_25 ?_
        refine g_lconst (v := 1) rfl eX12_turned_26 ?_
        refine g_lcmp eX12_turned_27 ?_
        refine g_if_ne eX12_turned_28 (fun h2 => ?_) (fun h2 => ?_)
        · rw [cmp_eq, one64, hbit] at h2
          refine tail r ?_ hm
          rw [sq_pow, show 2 * (w.toInt.toNat / 2) = w.toInt.toNat by omega]
          exact hr
        · rw [cmp_eq, one64, hbit] at h2
          have h1 := mulp64 (a := r) (b := q) (p0 := p0) (by omega) hq (by omega)
          refine g_lld4 eX12_turned_31 ?_
          refine g_lld6 eX12_turned_33 ?_
          refine g_lmul eX12_turned_35 ?_
          refine g_lld2 eX12_turned_36 ?_
          refine g_lrem hne eX12_turned_37 ?_
          refine g_lst4 rfl (Nat.le_of_ble_eq_true rfl) eX12_turned_38 ?_
          refine tail _ ?_ (by rw [h1, Int.emod_emod])
          rw [h1, emod_mul_mod, sq_pow, Int.mul_assoc, ← hr]
          congr 2
          rw [show w.toInt.toNat = 2 * (w.toInt.toNat / 2) + 1 by omega, Int.pow_succ, Int.mul_comm]
          congr 1
          rw [show (2 * (w.toInt.toNat / 2) + 1) / 2 = w.toInt.toNat / 2 by omega]
  refine g_lconst (v := 1) rfl eX12_turned_0 ?_
  refine g_lst4 rfl (Nat.le_of_ble_eq_true rfl) eX12_turned_1 ?_
  refine g_lld0 eX12_turned_3 ?_
  refine g_lst6 rfl (Nat.le_of_ble_eq_true rfl) eX12_turned_4 ?_
  refine g_lld2 eX12_turned_6 ?_
  refine g_ldc2 kc_X12_367 eX12_turned_7 ?_
  refine g_lsub eX12_turned_10 ?_
  refine g_lst8 rfl (Nat.le_of_ble_eq_true rfl) eX12_turned_11 ?_
  have e2 : (p0 - 2).toInt = p0.toInt - 2 := fb_subL (by rw [two64]; omega) (by rw [two64]; omega)
  refine loop _ 1 v _ (Nat.le_refl _) (by omega) hv ?_ ?_
  · rw [one64, Int.one_mul, e2]
  · rw [one64]; exact Int.emod_eq_of_lt (by omega) (by omega)
/-- the points by their list -/
def prL (pts : Nat → Nat) (a : Nat) (x : Int) : Nat → Int
  | 0 => 1
  | b + 1 => prL pts a x b * (if b = a then 1 else x - (pts b : Int))
theorem prL_succ (pts : Nat → Nat) (a : Nat) (x : Int) (b : Nat) : prL pts a x (b + 1) = prL pts a x b * (if b = a then 1 else x - (pts b : Int)) := rfl
noncomputable def thS (pts : Nat → Nat) (y : Nat → Int) (x : Int) (many n : Nat) : Int := fb_si (fun a => y (pts a) * (prL pts a x many * invF (prL pts a (pts a : Int) many))) n
theorem thS_succ (pts : Nat → Nat) (y : Nat → Int) (x : Int) (many n : Nat) : thS pts y x many (n + 1) = thS pts y x many n + y (pts n) * (prL pts n x many * invF (prL pts n (pts n : Int) many)) := fb_si_succ _ _
theorem sub_m {x : Int64} {z : Int} (hx : x.toInt = z) (hz : -10 ≤ z ∧ z ≤ 10) : (x + 100003 - (x + 100003) / 100003 * 100003).toInt = z % 100003 := by
  have e : (x + 100003).toInt = z + 100003 := by rw [fb_addL (by rw [hx, P64]; omega) (by rw [hx, P64]; omega), hx, P64]
  rw [rem64p (by rw [e]; omega) (by decide), e, P64, Int.add_emod_right]
theorem ix6 {i j : Nat} (hj : 1 ≤ j) : (6 : Int32) * nI i + nI j - 1 = nI (6 * i + j - 1) := by
  rw [show (6 : Int32) * nI i = nI (6 * i) from pk_mul 6 i, nI_add, show 6 * i + j = (6 * i + j - 1) + 1 by omega, nI_pred]
  rfl
def mptY (st : St) (i : Nat) : Nat → Int := fun j => (st.2 80 (6 * i + j - 1)).toInt
theorem w_through (st : St) (i : Nat) (hi : i < 4) (hY : ∀ j, 1 ≤ j → j < 7 → 0 ≤ mptY st i j ∧ mptY st i j < 100003) (many : Nat) (hm : many ≤ 6) (pts : Nat → Nat) (hpt : ∀ a, a < many → st.1 81 a = nI (pts a) ∧ 1 ≤ pts a ∧ pts a ≤ 6) (x : Int64) (hx : 0 ≤ x.toInt ∧ x.toInt ≤ 6) : Ml l D cy 1 YX12_through [.ref 31, .int (nI i), .int (nI many), .long x] st (fun r u => u = st ∧ r.toInt = thS pts (mptY st i) x.toInt many many % 100003) := by
  have hne : ¬ (100003 : Int64) = 0 := by decide
  refine M.ofG [some (.ref 31), some (.int (nI i)), some (.int (nI many)), some (.long x), none, none, none, none, none, none, none, none, none] (by decide) (Nat.le_of_ble_eq_true rfl) rfl ?_
  intro xp xe xs xm xa xb xme xc xad xA
  have outer : ∀ (d a : Nat) (z : Int64) (y8 y10 y12 : Option Value), a + d = many → z.toInt = thS pts (mptY st i) x.toInt many a % 100003 → G xp l xe (rmd (1)) xs xm xa xb xme xc D cy xad xA (YX12_through.2.1, YX12_through.1.cls, YX12_through.2.2.1, YX12_through.2.2.2) (Pl (fun (r : Int64) (u : St) => u = st ∧ r.toInt = thS pts (mptY st i) x.toInt many many % 100003)) 6 ([some (.ref 31), some (.int (nI i)), some (.int (nI many)), some (.long x), none, some (.long z), none, some (.int (nI a)), y8, none, y10, none, y12]) ([]) (st) := by
    intro d
    induction d with
    | zero =>
      intro a z y8 y10 y12 ha hz
      refine g_ild7 eX12_through_6 ?_
      refine g_ild2 eX12_through_8 ?_
      refine g_icmp_ge eX12_through_9 (fun hb => ?_) (fun hb => ?_)
      · refine g_lld5 eX12_through_153 ?_
        refine g_lret rfl eX12_through_155 ⟨_, rfl, ?_⟩
        try dsimp only
        exact ⟨rfl, by rw [hz, show a = many by omega]⟩
      · exact absurd (nI_le (by omega) (by omega)) hb
    | succ d ih =>
      intro a z y8 y10 y12 ha hz
      obtain ⟨pa1, pa2, pa3⟩ := hpt a (by omega)
      have hca : (nI a).toNatClampNeg = a := nI_clamp (by omega)
      have hina : vp_in (nI a) (ln 81) := vp_in_nI (n := a) (N := 6) (by omega) (by decide)
      have hzr : 0 ≤ z.toInt ∧ z.toInt < 100003 := by rw [hz]; exact ⟨Int.emod_nonneg _ (by decide), Int.emod_lt_of_pos _ (by decide)⟩
      have inner : ∀ (e b : Nat) (p0 q0 : Int64), b + e = many → p0.toInt = prL pts a x.toInt b % 100003 → q0.toInt = prL pts a (pts a : Int) b % 100003 → G xp l xe (rmd (1)) xs xm xa xb xme xc D cy xad xA (YX12_through.2.1, YX12_through.1.cls, YX12_through.2.2.1, YX12_through.2.2.2) (Pl (fun (r : Int64) (u : St) => u = st ∧ r.toInt = thS pts (mptY st i) x.toInt many many % 100003)) 21 ([some (.ref 31), some (.int (nI i)), some (.int (nI many)), some (.long x), none, some (.long z), none, some (.int (nI a)), some (.long p0), none, some (.long q0), none, some (.int (nI b))]) ([]) (st) := by
        intro e
        induction e with
        | zero =>
          intro b p0 q0 hb9 hp0 hq0
          have hbm : b = many := by omega
          subst hbm
          have hpr : 0 ≤ p0.toInt ∧ p0.toInt < 100003 := by rw [hp0]; exact ⟨Int.emod_nonneg _ (by decide), Int.emod_lt_of_pos _ (by decide)⟩
          have hqr : 0 ≤ q0.toInt ∧ q0.toInt < 100003 := by rw [hq0]; exact ⟨Int.emod_nonneg _ (by decide), Int.emod_lt_of_pos _ (by decide)⟩
          have hYa := hY (pts a) pa2 (by omega)
          refine g_ild12 eX12_through_21 ?_
          refine g_ild2 eX12_through_23 ?_
          refine g_icmp_ge eX12_through_24 (fun hb => ?_) (fun hb => ?_)
          · refine g_lld5 eX12_through_103 ?_
            refine g_ald0 eX12_through_105 ?_
            refine g_getR (ci := 11) (j := 75) rfl (Nat.le_of_ble_eq_true rfl) (Nat.le_of_ble_eq_true rfl) (Nat.le_of_ble_eq_true rfl) rfl rfl fl_X12_161 eX12_through_106 ?_
            refine g_bipush (v := 6) (by decide) eX12_through_109 ?_
            refine g_ild1 eX12_through_111 ?_
            refine g_imul eX12_through_112 ?_
            refine g_ald0 eX12_through_113 ?_
            refine g_getR (ci := 11) (j := 76) rfl (Nat.le_of_ble_eq_true rfl) (Nat.le_of_ble_eq_true rfl) (Nat.le_of_ble_eq_true rfl) rfl rfl fl_X12_164 eX12_through_114 ?_
            refine g_ild7 eX12_through_117 ?_
            refine g_iald rfl (Nat.le_of_ble_eq_true rfl) hina eX12_through_119 ?_
            rw [hca, pa1]
            refine g_iadd eX12_through_120 ?_
            refine g_iconst (v := 1) (by decide) eX12_through_121 ?_
            refine g_isub eX12_through_122 ?_
            rw [ix6 pa2]
            have hix : (nI (6 * i + pts a - 1)).toNatClampNeg = 6 * i + pts a - 1 := nI_clamp (by omega)
            refine g_lald rfl (Nat.le_of_ble_eq_true rfl) (vp_in_nI (n := 6 * i + pts a - 1) (N := 24) (by omega) (by decide)) eX12_through_123 ?_
            rw [hix]
            refine g_lld8 eX12_through_124 ?_
            refine g_lmul eX12_through_126 ?_
            refine g_ldc2 kc_X12_492 eX12_through_127 ?_
            refine g_lrem hne eX12_through_130 ?_
            refine g_lld10 eX12_through_131 ?_
            refine g_ldc2 kc_X12_492 eX12_through_133 ?_
            have h1 := mulp64 (a := st.2 80 (6 * i + pts a - 1)) (b := p0) (p0 := 100003) (by unfold mptY at hYa; omega) (by omega) (by decide)
            rw [P64] at h1
            generalize st.2 80 (6 * i + pts a - 1) * p0 - st.2 80 (6 * i + pts a - 1) * p0 / 100003 * 100003 = w1 at h1 ⊢
            have hw1 : 0 ≤ w1.toInt ∧ w1.toInt < 100003 := by rw [h1]; exact ⟨Int.emod_nonneg _ (by decide), Int.emod_lt_of_pos _ (by decide)⟩
            refine g_callSl (w_turned _ q0 100003 (by omega) (by decide)) cs_X12_369 eX12_through_136 ⟨Nat.le_of_ble_eq_true rfl, Nat.le_of_ble_eq_true rfl⟩ rfl rfl (Nat.le_of_ble_eq_true rfl) (fun r u h => ?_)
            obtain ⟨rfl, hr⟩ := h
            rw [P64, show ((100003 : Int) - 2).toNat = 100001 from rfl, ← invF_eq, hq0, invF_mod] at hr
            have hir := invF_rng (prL pts a (pts a : Int) b)
            have hm1 := mul_rng8 (a := w1.toInt) (b := r.toInt) (by omega) (by omega)
            have hm0 : 0 ≤ w1.toInt * r.toInt := Int.mul_nonneg hw1.1 (by omega)
            have e1 : (w1 * r).toInt = w1.toInt * r.toInt := fb_mulL (by omega) (by omega)
            have e2 : (z + w1 * r).toInt = z.toInt + w1.toInt * r.toInt := by rw [fb_addL (by rw [e1]; omega) (by rw [e1]; omega), e1]
            refine g_lmul eX12_through_139 ?_
            refine g_ladd eX12_through_140 ?_
            refine g_ldc2 kc_X12_492 eX12_through_141 ?_
            refine g_lrem hne eX12_through_144 ?_
            refine g_lst5 rfl (Nat.le_of_ble_eq_true rfl) eX12_through_145 ?_
            refine g_inc7 rfl (Nat.le_of_ble_eq_true rfl) rfl eX12_through_147 ?_
            refine g_goto eX12_through_150 ?_
            rw [inc1]
            refine ih (a + 1) _ _ _ _ (by omega) ?_
            rw [rem64p (by rw [e2]; omega) (by decide), e2, P64, h1, hr, hz, hp0, mul_emod_r, thS_succ, emod_addm, Int.add_emod, emod_mul_mod, ← Int.add_emod, Int.mul_assoc]
            rfl
          · exact absurd (nI_le (by omega) (by omega)) hb
        | succ e ihe =>
          intro b p0 q0 hb9 hp0 hq0
          obtain ⟨pb1, pb2, pb3⟩ := hpt b (by omega)
          have hcb : (nI b).toNatClampNeg = b := nI_clamp (by omega)
          have hinb : vp_in (nI b) (ln 81) := vp_in_nI (n := b) (N := 6) (by omega) (by decide)
          have hpr : 0 ≤ p0.toInt ∧ p0.toInt < 100003 := by rw [hp0]; exact ⟨Int.emod_nonneg _ (by decide), Int.emod_lt_of_pos _ (by decide)⟩
          have hqr : 0 ≤ q0.toInt ∧ q0.toInt < 100003 := by rw [hq0]; exact ⟨Int.emod_nonneg _ (by decide), Int.emod_lt_of_pos _ (by decide)⟩
          refine g_ild12 eX12_through_21 ?_
          refine g_ild2 eX12_through_23 ?_
          refine g_icmp_ge eX12_through_24 (fun hb => ?_) (fun hb => ?_)
          · exact absurd hb (nI_ge (by omega) (by omega))
          · refine g_ild12 eX12_through_27 ?_
            refine g_ild7 eX12_through_29 ?_
            refine g_icmp_ne eX12_through_31 (fun hb2 => ?_) (fun hb2 => ?_)
            · rw [nI_eq (by omega) (by omega)] at hb2
              refine g_lld8 eX12_through_37 ?_
              refine g_lld3 eX12_through_39 ?_
              refine g_ald0 eX12_through_40 ?_
              refine g_getR (ci := 11) (j := 76) rfl (Nat.le_of_ble_eq_true rfl) (Nat.le_of_ble_eq_true rfl) (Nat.le_of_ble_eq_true rfl) rfl rfl fl_X12_164 eX12_through_41 ?_
              refine g_ild12 eX12_through_44 ?_
              refine g_iald rfl (Nat.le_of_ble_eq_true rfl) hinb eX12_through_46 ?_
              rw [hcb, pb1]
              refine g_i2l eX12_through_47 ?_
              refine g_lsub eX12_through_48 ?_
              refine g_ldc2 kc_X12_492 eX12_through_49 ?_
              refine g_ladd eX12_through_52 ?_
              refine g_ldc2 kc_X12_492 eX12_through_53 ?_
              refine g_lrem hne eX12_through_56 ?_
              refine g_lmul eX12_through_57 ?_
              refine g_ldc2 kc_X12_492 eX12_through_58 ?_
              refine g_lrem hne eX12_through_61 ?_
              refine g_lst8 rfl (Nat.le_of_ble_eq_true rfl) eX12_through_62 ?_
              refine g_lld10 eX12_through_64 ?_
              refine g_ald0 eX12_through_66 ?_
              refine g_getR (ci := 11) (j := 76) rfl (Nat.le_of_ble_eq_true rfl) (Nat.le_of_ble_eq_true rfl) (Nat.le_of_ble_eq_true rfl) rfl rfl fl_X12_164 eX12_through_67 ?_
              refine g_ild7 eX12_through_70 ?_
              refine g_iald rfl (Nat.le_of_ble_eq_true rfl) hina eX12_through_72 ?_
              refine g_ald0 eX12_through_73 ?_
              refine g_getR (ci := 11) (j := 76) rfl (Nat.le_of_ble_eq_true rfl) (Nat.le_of_ble_eq_true rfl) (Nat.le_of_ble_eq_true rfl) rfl rfl fl_X12_164 eX12_through_74 ?_
              refine g_ild12 eX12_through_77 ?_
              refine g_iald rfl (Nat.le_of_ble_eq_true rfl) hinb eX12_through_79 ?_
              refine g_isub eX12_through_80 ?_
              refine g_i2l eX12_through_81 ?_
              refine g_ldc2 kc_X12_492 eX12_through_82 ?_
              refine g_ladd eX12_through_85 ?_
              refine g_ldc2 kc_X12_492 eX12_through_86 ?_
              refine g_lrem hne eX12_through_89 ?_
              refine g_lmul eX12_through_90 ?_
              refine g_ldc2 kc_X12_492 eX12_through_91 ?_
              refine g_lrem hne eX12_through_94 ?_
              refine g_lst10 rfl (Nat.le_of_ble_eq_true rfl) eX12_through_95 ?_
              rw [hca, hcb, pa1, pb1]
              have s1 : (x - (nI (pts b)).toInt64).toInt = x.toInt - (pts b : Int) := by
                rw [fb_subL (by rw [tl, nI_toInt (by omega)]; omega) (by rw [tl, nI_toInt (by omega)]; omega), tl, nI_toInt (by omega)]
              have s2 : (nI (pts a) - nI (pts b)).toInt64.toInt = (pts a : Int) - (pts b : Int) := by
                rw [tl, pk_sub_toInt (by omega) (by omega)]
              have t1 := sub_m s1 (by omega)
              have t2 := sub_m s2 (by omega)
              generalize x - (nI (pts b)).toInt64 + 100003 - (x - (nI (pts b)).toInt64 + 100003) / 100003 * 100003 = v1 at t1 ⊢
              generalize (nI (pts a) - nI (pts b)).toInt64 + 100003 - ((nI (pts a) - nI (pts b)).toInt64 + 100003) / 100003 * 100003 = v2 at t2 ⊢
              have v1r : 0 ≤ v1.toInt ∧ v1.toInt < 100003 := by rw [t1]; exact ⟨Int.emod_nonneg _ (by decide), Int.emod_lt_of_pos _ (by decide)⟩
              have v2r : 0 ≤ v2.toInt ∧ v2.toInt < 100003 := by rw [t2]; exact ⟨Int.emod_nonneg _ (by decide), Int.emod_lt_of_pos _ (by decide)⟩
              refine g_inc12 rfl (Nat.le_of_ble_eq_true rfl) rfl eX12_through_97 ?_
              refine g_goto eX12_through_100 ?_
              rw [inc1]
              refine ihe (b + 1) _ _ (by omega) ?_ ?_
              · rw [mulp64 (by omega) (by omega) (by decide), P64, t1, hp0, prL_succ, if_neg hb2, ← Int.mul_emod]
              · rw [mulp64 (by omega) (by omega) (by decide), P64, t2, hq0, prL_succ, if_neg hb2, ← Int.mul_emod]
            · rw [nI_eq (by omega) (by omega)] at hb2
              refine g_goto eX12_through_34 ?_
              refine g_inc12 rfl (Nat.le_of_ble_eq_true rfl) rfl eX12_through_97 ?_
              refine g_goto eX12_through_100 ?_
              rw [inc1]
              refine ihe (b + 1) _ _ (by omega) ?_ ?_
              · rw [prL_succ, if_pos hb2, Int.mul_one, hp0]
              · rw [prL_succ, if_pos hb2, Int.mul_one, hq0]
      refine g_ild7 eX12_through_6 ?_
      refine g_ild2 eX12_through_8 ?_
      refine g_icmp_ge eX12_through_9 (fun hb => ?_) (fun hb => ?_)
      · exact absurd hb (nI_ge (by omega) (by omega))
      · refine g_lconst (v := 1) rfl eX12_through_12 ?_
        refine g_lst8 rfl (Nat.le_of_ble_eq_true rfl) eX12_through_13 ?_
        refine g_lconst (v := 1) rfl eX12_through_15 ?_
        refine g_lst10 rfl (Nat.le_of_ble_eq_true rfl) eX12_through_16 ?_
        refine g_iconst (v := 0) (by decide) eX12_through_18 ?_
        refine g_ist12 rfl (Nat.le_of_ble_eq_true rfl) eX12_through_19 ?_
        exact inner many 0 1 1 (by omega) rfl rfl
  refine g_lconst (v := 0) rfl eX12_through_0 ?_
  refine g_lst5 rfl (Nat.le_of_ble_eq_true rfl) eX12_through_1 ?_
  refine g_iconst (v := 0) (by decide) eX12_through_3 ?_
  refine g_ist7 rfl (Nat.le_of_ble_eq_true rfl) eX12_through_4 ?_
  exact outer many 0 0 _ _ _ (by omega) rfl
/-! the points of a set in their order -/
def enum (m : Nat) (pts : Nat → Nat) : Prop := ∀ i, i < 7 → bitS m i = true → pts (fb_ct (bitS m) i) = i
theorem prd_prL {m : Nat} {pts : Nat → Nat} (h : enum m pts) {i : Nat} (hb : bitS m i = true) (x : Int) : ∀ c, c ≤ 7 → prd m i x c = prL pts (fb_ct (bitS m) i) x (fb_ct (bitS m) c)
  | 0, _ => rfl
  | c + 1, hc => by
    have ih := prd_prL h hb x c (by omega)
    rw [prd_succ, fb_ct_succ, ih]
    by_cases hbc : bitS m c = true
    · rw [if_pos hbc, prL_succ, h c (by omega) hbc]
      by_cases hci : c = i
      · rw [if_neg (fun q => q.2 hci), if_pos (by rw [hci])]
      · rw [if_pos ⟨hbc, hci⟩, if_neg (fun q => hci (fb_ct_kth_one hbc hb q))]
    · rw [if_neg hbc, if_neg (fun q => hbc q.1), Int.mul_one]
      rfl
theorem si_enum (m : Nat) (g : Nat → Int) : ∀ c, fb_si g (fb_ct (bitS m) c) = fb_si (fun i => if bitS m i = true then g (fb_ct (bitS m) i) else 0) c
  | 0 => rfl
  | c + 1 => by
    rw [fb_ct_succ, fb_si_succ, ← si_enum m g c]
    by_cases hbc : bitS m c = true
    · rw [if_pos hbc, if_pos hbc, fb_si_succ]
    · rw [if_neg hbc, if_neg hbc, Int.add_zero]
      rfl
theorem th_va {m : Nat} {pts : Nat → Nat} (h : enum m pts) (y : Nat → Int) (x : Int) : thS pts y x (fb_ct (bitS m) 7) (fb_ct (bitS m) 7) % 100003 = vaF m y x := by
  unfold thS vaF vaS
  rw [si_enum]
  refine si_mod (fun i hi => ?_)
  by_cases hb : bitS m i = true
  · rw [if_pos hb, if_pos hb, h i hi hb, ← prd_prL h hb x 7 (Nat.le_refl _), ← prd_prL h hb (i : Int) 7 (Nat.le_refl _)]
    unfold wtF
    rw [mul_emod_r]
  · rw [if_neg hb, if_neg hb]
theorem first_ct : ∀ m, m < 64 → ∀ k, k < 7 → ∀ c, c < 8 → fb_ct (bitS (first m k)) c = min k (fb_ct (bitS m) c) := by decide +kernel
end PARTG
