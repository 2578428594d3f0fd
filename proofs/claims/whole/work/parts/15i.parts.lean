/-! joined, who: the model -/
section PARTI
variable {l : Launch} {D : va_G} {cy : Nat → ClassId}
/-- the points that stand written: those of the set below a, the first k -/
def ptsW (m k a : Nat) (f : Nat → Int32) : Prop := ∀ j, j < a → bitS m j = true → fb_ct (bitS m) j < k → f (fb_ct (bitS m) j) = nI j
theorem ptsW_enum {m k a : Nat} {f : Nat → Int32} (hm : m < 64) (hk : k < 7) (ha : k ≤ fb_ct (bitS m) a) (h : ptsW m k a f) : enum (first m k) (fun c => (f c).toInt.toNat) := by
  intro i hi hb
  have hf := fnM_ok m hm k hk
  rw [hf.2 i hi, Bool.and_eq_true] at hb
  have hb2 := of_decide_eq_true hb.2
  rw [first_ct m hm k hk i (by omega), show min k (fb_ct (bitS m) i) = fb_ct (bitS m) i by omega]
  have hia : i < a := by
    by_cases q : i < a
    · exact q
    · have := fb_ct_mono (bitS m) (show a ≤ i by omega)
      omega
  show (f (fb_ct (bitS m) i)).toInt.toNat = i
  rw [h i hia hb.1 hb2, nI_toInt (by omega)]
  omega
theorem ptsW_pt {m k a : Nat} {f : Nat → Int32} (ha7 : a ≤ 7) (ha : k ≤ fb_ct (bitS m) a) (h : ptsW m k a f) {c : Nat} (hc : c < k) : f c = nI (f c).toInt.toNat ∧ 1 ≤ (f c).toInt.toNat ∧ (f c).toInt.toNat ≤ 6 := by
  obtain ⟨i, hi, hb, hct⟩ := fb_ct_kth (p := bitS m) (k := c) (n := a) (by omega)
  have h1 := h i hi hb (by omega)
  rw [hct] at h1
  have h2 := bit_ge hb
  rw [h1, nI_toInt (by omega), Int.toNat_natCast]
  exact ⟨rfl, h2, by omega⟩
theorem mptY_sR (st : St) (f : Nat → Int32) (i : Nat) : mptY (sR st 81 f) i = mptY st i := rfl
theorem w_joined (st s1 : St) (hT : sI st 31 18 0 = s1) {nk : Nat} (hk : s1.1 31 53 = nI nk) (h4 : nk ≤ 4) (hp : mptsOK s1 nk) (k s0 : Int32) : Mi l D cy 3 YX12_joined [.ref 31, .int k, .int s0] st (fun r u => (∃ f, u = sR s1 81 f) ∧ r.toInt = if (isS nk k ∧ 0 < mN s1 (qI k)) ∧ 0 ≤ s0.toInt ∧ s0.toInt < (2 ^ mN s1 (qI k) : Nat) then (if fb_ct (bitS (qI s0)) 7 < mKn s1 (qI k) then -2 else vaF (first (qI s0) (mKn s1 (qI k))) (mptY s1 (qI k)) 0) else -1) := by
  have hkc : (s1.1 31 53).toInt = nk := by rw [hk, nI_toInt (by omega)]
  refine M.ofG [some (.ref 31), some (.int k), some (.int s0), none, none] (by decide) (Nat.le_of_ble_eq_true rfl) rfl ?_
  intro xp xe xs xm xa xb xme xc xad xA
  have bad : ¬ ((isS nk k ∧ 0 < mN s1 (qI k)) ∧ 0 ≤ s0.toInt ∧ s0.toInt < (2 ^ mN s1 (qI k) : Nat)) → G xp l xe (rmd (3)) xs xm xa xb xme xc D cy xad xA (YX12_joined.2.1, YX12_joined.1.cls, YX12_joined.2.2.1, YX12_joined.2.2.2) (Pi (fun (r : Int32) (u : St) => (∃ f, u = sR s1 81 f) ∧ r.toInt = if (isS nk k ∧ 0 < mN s1 (qI k)) ∧ 0 ≤ s0.toInt ∧ s0.toInt < (2 ^ mN s1 (qI k) : Nat) then (if fb_ct (bitS (qI s0)) 7 < mKn s1 (qI k) then -2 else vaF (first (qI s0) (mKn s1 (qI k))) (mptY s1 (qI k)) 0) else -1)) 38 ([some (.ref 31), some (.int k), some (.int s0), none, none]) ([]) (s1) := by
    intro h
    refine g_iconst (v := (-1)) (by decide) eX12_joined_38 ?_
    refine g_iret rfl eX12_joined_39 ⟨_, rfl, ?_⟩
    try dsimp only
    rw [if_neg h]
    exact ⟨⟨s1.1 81, by rw [sR_same]⟩, rfl⟩
  refine g_ald0 eX12_joined_0 ?_
  refine g_iconst (v := 0) (by decide) eX12_joined_1 ?_
  refine g_putI (ci := 11) (j := 18) rfl rfl (Nat.le_of_ble_eq_true rfl) (Nat.le_of_ble_eq_true rfl) (Nat.le_of_ble_eq_true rfl) rfl fl_X12_177 eX12_joined_2 ?_
  rw [hT]
  refine g_ald0 eX12_joined_5 ?_
  refine g_ild1 eX12_joined_6 ?_
  refine g_callVi (ci := 11) (w_isKey _ k) rfl (Nat.le_of_ble_eq_true rfl) (Nat.le_of_ble_eq_true rfl) rfl cv_X12_388 eX12_joined_7 ⟨Nat.le_of_ble_eq_true rfl, Nat.le_of_ble_eq_true rfl⟩ rfl rfl (Nat.le_of_ble_eq_true rfl) (fun r s1 h => ?_)
  obtain ⟨rfl, rfl⟩ := h
  rw [hkc]
  refine g_if_eq eX12_joined_10 (fun hb => ?_) (fun hb => ?_)
  · rw [b2_eq0] at hb
    exact bad (fun h => hb h.1.1)
  · rw [b2_ne0] at hb
    obtain ⟨i, hik, rfl⟩ := as_nI hb
    have hi : i < 4 := by omega
    have e : qI (nI i) = i := nI_clamp (by omega)
    have eC : (nI i).toNatClampNeg = i := e
    have hpi := (hp i hik).1
    obtain ⟨p1, p2, p3, p4, p5⟩ := hpi
    have hin4 : vp_in (nI i) 4 := vp_in_nI (n := i) (N := 4) hi (by decide)
    have hpw := pw_n (mN s1 i) p2
    refine g_ald0 eX12_joined_13 ?_
    refine g_getR (ci := 11) (j := 73) rfl (Nat.le_of_ble_eq_true rfl) (Nat.le_of_ble_eq_true rfl) (Nat.le_of_ble_eq_true rfl) rfl rfl fl_X12_155 eX12_joined_14 ?_
    refine g_ild1 eX12_joined_17 ?_
    refine g_iald rfl (Nat.le_of_ble_eq_true rfl) hin4 eX12_joined_18 ?_
    rw [eC, p1]
    refine g_if_eq eX12_joined_19 (fun hb2 => ?_) (fun hb2 => ?_)
    · rw [fa_eq, z32, nI_toInt (by omega)] at hb2
      exact bad (fun h => by have := h.1.2; rw [e] at this; omega)
    · rw [fa_eq, z32, nI_toInt (by omega)] at hb2
      refine g_ild2 eX12_joined_22 ?_
      refine g_if_lt eX12_joined_23 (fun hb3 => ?_) (fun hb3 => ?_)
      · rw [fa_lt, z32] at hb3
        exact bad (fun h => by have := h.2.1; omega)
      · rw [fa_lt, z32] at hb3
        refine g_ild2 eX12_joined_26 ?_
        refine g_iconst (v := 1) (by decide) eX12_joined_27 ?_
        refine g_ald0 eX12_joined_28 ?_
        refine g_getR (ci := 11) (j := 73) rfl (Nat.le_of_ble_eq_true rfl) (Nat.le_of_ble_eq_true rfl) (Nat.le_of_ble_eq_true rfl) rfl rfl fl_X12_155 eX12_joined_29 ?_
        refine g_ild1 eX12_joined_32 ?_
        refine g_iald rfl (Nat.le_of_ble_eq_true rfl) hin4 eX12_joined_33 ?_
        rw [eC, p1]
        refine g_ishl eX12_joined_34 ?_
        have hsh := shl_pow (m0 := mN s1 i) (by omega)
        have hsh2 : ((2 : Int) ^ mN s1 i) = ((2 ^ mN s1 i : Nat) : Int) := by rw [Int.natCast_pow]; rfl
        rw [hsh2] at hsh
        refine g_icmp_lt eX12_joined_35 (fun hb4 => ?_) (fun hb4 => ?_)
        · rw [fa_lt, hsh] at hb4
          obtain ⟨m, hm, rfl⟩ := as_nI (x := s0) (n := 2 ^ mN s1 i) (by omega)
          have em : qI (nI m) = m := nI_clamp (by omega)
          have hm6 : m < 64 := by omega
          have hOK : (isS nk (nI i) ∧ 0 < mN s1 (qI (nI i))) ∧ 0 ≤ (nI m).toInt ∧ (nI m).toInt < (2 ^ mN s1 (qI (nI i)) : Nat) := ⟨⟨hb, by rw [e]; omega⟩, by rw [nI_toInt (by omega)]; omega, by rw [e]; exact hb4⟩
          have hr78 : ∀ f : Nat → Int32, (sR s1 81 f).1 78 = s1.1 78 := fun f => sR_ne (by decide)
          have hr79 : ∀ f : Nat → Int32, (sR s1 81 f).1 79 = s1.1 79 := fun f => sR_ne (by decide)
          have done : ∀ (a : Nat) (f : Nat → Int32) (y4 : Option Value), a ≤ 7 → fb_ct (bitS m) a ≤ mKn s1 i → ptsW m (mKn s1 i) a f → (fb_ct (bitS m) a < mKn s1 i → fb_ct (bitS m) 7 = fb_ct (bitS m) a) → G xp l xe (rmd (3)) xs xm xa xb xme xc D cy xad xA (YX12_joined.2.1, YX12_joined.1.cls, YX12_joined.2.2.1, YX12_joined.2.2.2) (Pi (fun (r : Int32) (u : St) => (∃ f, u = sR s1 81 f) ∧ r.toInt = if (isS nk (nI i) ∧ 0 < mN s1 (qI (nI i))) ∧ 0 ≤ (nI m).toInt ∧ (nI m).toInt < (2 ^ mN s1 (qI (nI i)) : Nat) then (if fb_ct (bitS (qI (nI m))) 7 < mKn s1 (qI (nI i)) then -2 else vaF (first (qI (nI m)) (mKn s1 (qI (nI i)))) (mptY s1 (qI (nI i))) 0) else -1)) 97 ([some (.ref 31), some (.int (nI i)), some (.int (nI m)), some (.int (nI (fb_ct (bitS m) a))), y4]) ([]) (sR s1 81 f) := by
            intro a f y4 ha7 hle hW hend
            have hmono := fb_ct_mono (bitS m) (m := a) (n := 7) ha7
            refine g_ild3 eX12_joined_97 ?_
            refine g_ald0 eX12_joined_98 ?_
            refine g_getR (ci := 11) (j := 74) rfl (Nat.le_of_ble_eq_true rfl) (Nat.le_of_ble_eq_true rfl) (Nat.le_of_ble_eq_true rfl) rfl rfl fl_X12_158 eX12_joined_99 ?_
            refine g_ild1 eX12_joined_102 ?_
            refine g_iald rfl (Nat.le_of_ble_eq_true rfl) hin4 eX12_joined_103 ?_
            rw [hr79, eC, p3]
            refine g_icmp_ge eX12_joined_104 (fun hb5 => ?_) (fun hb5 => ?_)
            · rw [nI_leI (by omega) (by omega)] at hb5
              have hc : fb_ct (bitS m) a = mKn s1 i := by omega
              rw [hc]
              refine g_ald0 eX12_joined_112 ?_
              refine g_ild1 eX12_joined_113 ?_
              refine g_ild3 eX12_joined_114 ?_
              refine g_lconst (v := 0) rfl eX12_joined_115 ?_
              refine g_callVl (ci := 11) (w_through _ i hi (by rw [mptY_sR]; exact p5) (mKn s1 i) p4 (fun c => (f c).toInt.toNat) (fun c hc9 => by rw [sR_at]; exact ptsW_pt ha7 hb5 hW hc9) 0 (by decide)) rfl (Nat.le_of_ble_eq_true rfl) (Nat.le_of_ble_eq_true rfl) rfl cv_X12_499 eX12_joined_116 ⟨Nat.le_of_ble_eq_true rfl, Nat.le_of_ble_eq_true rfl⟩ rfl rfl (Nat.le_of_ble_eq_true rfl) (fun r u h => ?_)
              obtain ⟨rfl, hr⟩ := h
              rw [mptY_sR, z64] at hr
              have hv := th_va (ptsW_enum hm6 (by omega) hb5 hW) (mptY s1 i) 0
              rw [first_ct m hm6 _ (by omega) 7 (by decide), show min (mKn s1 i) (fb_ct (bitS m) 7) = mKn s1 i by omega] at hv
              rw [hv] at hr
              have hrr := vaF_rng (first m (mKn s1 i)) (mptY s1 i) 0
              refine g_l2i eX12_joined_119 ?_
              refine g_iret rfl eX12_joined_120 ⟨_, rfl, ?_⟩
              try dsimp only
              rw [if_pos hOK, e, em, if_neg (by omega)]
              refine ⟨⟨f, rfl⟩, ?_⟩
              rw [l2i (by omega) (by omega), hr]
            · rw [nI_leI (by omega) (by omega)] at hb5
              refine g_bipush (v := (-2)) (by decide) eX12_joined_107 ?_
              refine g_goto eX12_joined_109 ?_
              refine g_iret rfl eX12_joined_120 ⟨_, rfl, ?_⟩
              try dsimp only
              rw [if_pos hOK, e, em, if_pos (by have := hend (by omega); omega)]
              exact ⟨⟨f, rfl⟩, rfl⟩
          have loop : ∀ (d a : Nat) (f : Nat → Int32), a + d = mN s1 i + 1 → 1 ≤ a → fb_ct (bitS m) a ≤ mKn s1 i → ptsW m (mKn s1 i) a f → G xp l xe (rmd (3)) xs xm xa xb xme xc D cy xad xA (YX12_joined.2.1, YX12_joined.1.cls, YX12_joined.2.2.1, YX12_joined.2.2.2) (Pi (fun (r : Int32) (u : St) => (∃ f, u = sR s1 81 f) ∧ r.toInt = if (isS nk (nI i) ∧ 0 < mN s1 (qI (nI i))) ∧ 0 ≤ (nI m).toInt ∧ (nI m).toInt < (2 ^ mN s1 (qI (nI i)) : Nat) then (if fb_ct (bitS (qI (nI m))) 7 < mKn s1 (qI (nI i)) then -2 else vaF (first (qI (nI m)) (mKn s1 (qI (nI i)))) (mptY s1 (qI (nI i))) 0) else -1)) 45 ([some (.ref 31), some (.int (nI i)), some (.int (nI m)), some (.int (nI (fb_ct (bitS m) a))), some (.int (nI a))]) ([]) (sR s1 81 f) := by
            intro d
            induction d with
            | zero =>
              intro a f ha ha1 hle hW
              refine g_ild4 eX12_joined_45 ?_
              refine g_ald0 eX12_joined_47 ?_
              refine g_getR (ci := 11) (j := 73) rfl (Nat.le_of_ble_eq_true rfl) (Nat.le_of_ble_eq_true rfl) (Nat.le_of_ble_eq_true rfl) rfl rfl fl_X12_155 eX12_joined_48 ?_
              refine g_ild1 eX12_joined_51 ?_
              refine g_iald rfl (Nat.le_of_ble_eq_true rfl) hin4 eX12_joined_52 ?_
              rw [hr78, eC, p1]
              refine g_icmp_gt eX12_joined_53 (fun hb5 => ?_) (fun hb5 => ?_)
              · refine done a f _ (by omega) hle hW (fun _ => ?_)
                have hst : ∀ d, fb_ct (bitS m) (a + d) = fb_ct (bitS m) a := by
                  intro d
                  induction d with
                  | zero => rfl
                  | succ d ihd => rw [Nat.add_succ, fb_ct_succ, ihd, if_neg (fun q => by rw [bit_hi hm (by omega)] at q; exact absurd q (by decide)), Nat.add_zero]
                have := hst (7 - a)
                rw [show a + (7 - a) = 7 by omega] at this
                exact this
              · exact absurd (nI_lt (a := mN s1 i) (b := a) (by omega) (by omega)) hb5
            | succ d ih =>
              intro a f ha ha1 hle hW
              have hcl := fb_ct_le (bitS m) a
              refine g_ild4 eX12_joined_45 ?_
              refine g_ald0 eX12_joined_47 ?_
              refine g_getR (ci := 11) (j := 73) rfl (Nat.le_of_ble_eq_true rfl) (Nat.le_of_ble_eq_true rfl) (Nat.le_of_ble_eq_true rfl) rfl rfl fl_X12_155 eX12_joined_48 ?_
              refine g_ild1 eX12_joined_51 ?_
              refine g_iald rfl (Nat.le_of_ble_eq_true rfl) hin4 eX12_joined_52 ?_
              rw [hr78, eC, p1]
              refine g_icmp_gt eX12_joined_53 (fun hb5 => ?_) (fun hb5 => ?_)
              · exact absurd hb5 (nI_nlt (by omega) (by omega))
              · refine g_ild3 eX12_joined_56 ?_
                refine g_ald0 eX12_joined_57 ?_
                refine g_getR (ci := 11) (j := 74) rfl (Nat.le_of_ble_eq_true rfl) (Nat.le_of_ble_eq_true rfl) (Nat.le_of_ble_eq_true rfl) rfl rfl fl_X12_158 eX12_joined_58 ?_
                refine g_ild1 eX12_joined_61 ?_
                refine g_iald rfl (Nat.le_of_ble_eq_true rfl) hin4 eX12_joined_62 ?_
                rw [hr79, eC, p3]
                refine g_icmp_ge eX12_joined_63 (fun hb6 => ?_) (fun hb6 => ?_)
                · rw [nI_leI (by omega) (by omega)] at hb6
                  exact done a f _ (by omega) hle hW (fun h => by omega)
                · rw [nI_leI (by omega) (by omega)] at hb6
                  have e1 : nI a - 1 = nI (a - 1) := by rw [show a = (a - 1) + 1 by omega, nI_pred]; rfl
                  have e2 := shr_pow (nI m) (m0 := a - 1) (by omega)
                  rw [nI_toInt (by omega)] at e2
                  have hpp : (0 : Int) < 2 ^ (a - 1) := Int.pow_pos (by decide)
                  have e3 : 0 ≤ (nI m >>> (nI (a - 1) &&& 31)).toInt := by rw [e2]; exact Int.ediv_nonneg (by omega) (by omega)
                  have e4 := bit0 _ e3
                  rw [e2] at e4
                  have e5 : ((m : Int) / 2 ^ (a - 1) % 2) = ((m / 2 ^ (a - 1) % 2 : Nat) : Int) := by
                    rw [Int.natCast_emod, Int.natCast_ediv, Int.natCast_pow]; rfl
                  rw [e5] at e4
                  refine g_ild2 eX12_joined_66 ?_
                  refine g_ild4 eX12_joined_67 ?_
                  refine g_iconst (v := 1) (by decide) eX12_joined_69 ?_
                  refine g_isub eX12_joined_70 ?_
                  rw [e1]
                  refine g_ishr eX12_joined_71 ?_
                  refine g_iconst (v := 1) (by decide) eX12_joined_72 ?_
                  refine g_iand eX12_joined_73 ?_
                  have nx := ih (a + 1)
                  rw [fb_ct_succ] at nx
                  refine g_if_ne eX12_joined_74 (fun hb7 => ?_) (fun hb7 => ?_)
                  · rw [fa_eq, z32, e4] at hb7
                    have hbit : bitS m a = true := decide_eq_true ⟨ha1, by omega⟩
                    rw [if_pos hbit] at nx
                    refine g_ald0 eX12_joined_80 ?_
                    refine g_getR (ci := 11) (j := 76) rfl (Nat.le_of_ble_eq_true rfl) (Nat.le_of_ble_eq_true rfl) (Nat.le_of_ble_eq_true rfl) rfl rfl fl_X12_164 eX12_joined_81 ?_
                    refine g_ild3 eX12_joined_84 ?_
                    refine g_ild4 eX12_joined_85 ?_
                    refine g_iast rfl (Nat.le_of_ble_eq_true rfl) (vp_in_nI (n := fb_ct (bitS m) a) (N := 6) (by omega) (by decide)) eX12_joined_87 ?_
                    rw [nI_clamp (by omega), sI_sR]
                    refine g_inc3 rfl (Nat.le_of_ble_eq_true rfl) rfl eX12_joined_88 ?_
                    refine g_inc4 rfl (Nat.le_of_ble_eq_true rfl) rfl eX12_joined_91 ?_
                    refine g_goto eX12_joined_94 ?_
                    rw [inc1, inc1]
                    refine nx _ (by omega) (by omega) (by omega) (fun j hj hbj hcj => ?_)
                    by_cases hja : j = a
                    · rw [hja]; exact if_pos rfl
                    · have hne : fb_ct (bitS m) j ≠ fb_ct (bitS m) a := fun q => hja (fb_ct_kth_one hbj hbit q)
                      rw [show upd f (fb_ct (bitS m) a) (nI a) (fb_ct (bitS m) j) = f (fb_ct (bitS m) j) from if_neg hne]
                      exact hW j (by omega) hbj hcj
                  · rw [fa_eq, z32, e4] at hb7
                    have hbit : ¬ bitS m a = true := fun q => by have := (of_decide_eq_true q).2; omega
                    rw [if_neg hbit, Nat.add_zero] at nx
                    refine g_goto eX12_joined_77 ?_
                    refine g_inc4 rfl (Nat.le_of_ble_eq_true rfl) rfl eX12_joined_91 ?_
                    refine g_goto eX12_joined_94 ?_
                    rw [inc1]
                    refine nx f (by omega) (by omega) hle (fun j hj hbj hcj => ?_)
                    by_cases hja : j = a
                    · rw [hja] at hbj; exact absurd hbj hbit
                    · exact hW j (by omega) hbj hcj
          refine g_iconst (v := 0) (by decide) eX12_joined_40 ?_
          refine g_ist3 rfl (Nat.le_of_ble_eq_true rfl) eX12_joined_41 ?_
          refine g_iconst (v := 1) (by decide) eX12_joined_42 ?_
          refine g_ist4 rfl (Nat.le_of_ble_eq_true rfl) eX12_joined_43 ?_
          have e0 : s1 = sR s1 81 (s1.1 81) := by rw [sR_same]
          have go := loop (mN s1 i) 1 (s1.1 81) (by omega) (Nat.le_refl _) (Nat.zero_le _) (fun j hj hb _ => by have := bit_ge hb; omega)
          rw [← e0] at go
          exact go
        · rw [fa_lt, hsh] at hb4
          exact bad (fun h => by have := h.2.2; rw [e] at this; omega)
theorem w_liesOnOne (st : St) (i : Nat) (hi : i < 4) {n k : Nat} (hp : mptOK st i n k) (w : Nat) (hw : w ≤ n) : Mi l D cy 2 YX12_liesOnOne [.ref 31, .int (nI i), .int (nI w)] st (fun r u => (∃ f, u = sR st 81 f) ∧ ((r = 1 ∧ lies (without n w) k (mptY st i)) ∨ (r = 0 ∧ ¬ lies (without n w) k (mptY st i)))) := by
  obtain ⟨p1, p2, p3, p4, p5⟩ := hp
  have wb := wo_bits n (by omega) w (by omega) hw
  have hm6 : without n w < 64 := lt64 (by omega) wb.1
  have hbits := wb.2
  have hmlt := wb.1
  generalize without n w = m at hbits hmlt hm6
  have hiff := lies_iff (m := m) (k := k) hm6 (by omega) p5
  have hin4 : vp_in (nI i) 4 := vp_in_nI (n := i) (N := 4) hi (by decide)
  have eC : (nI i).toNatClampNeg = i := nI_clamp (by omega)
  have hr78 : ∀ f : Nat → Int32, (sR st 81 f).1 78 = st.1 78 := fun f => sR_ne (by decide)
  have hr79 : ∀ f : Nat → Int32, (sR st 81 f).1 79 = st.1 79 := fun f => sR_ne (by decide)
  refine M.ofG [some (.ref 31), some (.int (nI i)), some (.int (nI w)), none, none] (by decide) (Nat.le_of_ble_eq_true rfl) rfl ?_
  intro xp xe xs xm xa xb xme xc xad xA
  have loop : ∀ (d a : Nat) (f : Nat → Int32), a + d = n + 1 → 1 ≤ a → ptsW m k a f → (∀ j, j < a → bitS m j = true → k ≤ fb_ct (bitS m) j → vaF (first m k) (mptY st i) j = mptY st i j) → G xp l xe (rmd (2)) xs xm xa xb xme xc D cy xad xA (YX12_liesOnOne.2.1, YX12_liesOnOne.1.cls, YX12_liesOnOne.2.2.1, YX12_liesOnOne.2.2.2) (Pi (fun (r : Int32) (u : St) => (∃ f, u = sR st 81 f) ∧ ((r = 1 ∧ lies m k (mptY st i)) ∨ (r = 0 ∧ ¬ lies m k (mptY st i))))) 5 ([some (.ref 31), some (.int (nI i)), some (.int (nI w)), some (.int (nI (min k (fb_ct (bitS m) a)))), some (.int (nI a))]) ([]) (sR st 81 f) := by
    intro d
    induction d with
    | zero =>
      intro a f ha ha1 hW hall
      refine g_ild4 eX12_liesOnOne_5 ?_
      refine g_ald0 eX12_liesOnOne_7 ?_
      refine g_getR (ci := 11) (j := 73) rfl (Nat.le_of_ble_eq_true rfl) (Nat.le_of_ble_eq_true rfl) (Nat.le_of_ble_eq_true rfl) rfl rfl fl_X12_155 eX12_liesOnOne_8 ?_
      refine g_ild1 eX12_liesOnOne_11 ?_
      refine g_iald rfl (Nat.le_of_ble_eq_true rfl) hin4 eX12_liesOnOne_12 ?_
      rw [hr78, eC, p1]
      refine g_icmp_gt eX12_liesOnOne_13 (fun hb => ?_) (fun hb => ?_)
      · refine g_iconst (v := 1) (by decide) eX12_liesOnOne_84 ?_
        refine g_zret (ty := .boolean) rfl (by first | rfl | assumption) eX12_liesOnOne_85 ⟨_, rfl, ?_⟩
        try dsimp only
        refine ⟨⟨f, rfl⟩, Or.inl ⟨rfl, hiff.mpr (fun j hj hbj hc => ?_)⟩⟩
        by_cases hja : j < a
        · exact hall j hja hbj hc
        · rw [bit_hi hmlt (by omega)] at hbj
          exact absurd hbj (by decide)
      · exact absurd (nI_lt (a := n) (b := a) (by omega) (by omega)) hb
    | succ d ih =>
      intro a f ha ha1 hW hall
      have ea : (nI a).toInt = a := nI_toInt (by omega)
      have hbit := hbits a (by omega)
      have nx := ih (a + 1)
      rw [fb_ct_succ] at nx
      refine g_ild4 eX12_liesOnOne_5 ?_
      refine g_ald0 eX12_liesOnOne_7 ?_
      refine g_getR (ci := 11) (j := 73) rfl (Nat.le_of_ble_eq_true rfl) (Nat.le_of_ble_eq_true rfl) (Nat.le_of_ble_eq_true rfl) rfl rfl fl_X12_155 eX12_liesOnOne_8 ?_
      refine g_ild1 eX12_liesOnOne_11 ?_
      refine g_iald rfl (Nat.le_of_ble_eq_true rfl) hin4 eX12_liesOnOne_12 ?_
      rw [hr78, eC, p1]
      refine g_icmp_gt eX12_liesOnOne_13 (fun hb => ?_) (fun hb => ?_)
      · exact absurd hb (nI_nlt (by omega) (by omega))
      · refine g_ild4 eX12_liesOnOne_16 ?_
        refine g_ild2 eX12_liesOnOne_18 ?_
        refine g_icmp_ne eX12_liesOnOne_19 (fun hb2 => ?_) (fun hb2 => ?_)
        · rw [nI_eq (by omega) (by omega)] at hb2
          have hb3 : bitS m a = true := by rw [hbit]; exact decide_eq_true ⟨ha1, by omega, hb2⟩
          rw [if_pos hb3] at nx
          refine g_ild3 eX12_liesOnOne_25 ?_
          refine g_ald0 eX12_liesOnOne_26 ?_
          refine g_getR (ci := 11) (j := 74) rfl (Nat.le_of_ble_eq_true rfl) (Nat.le_of_ble_eq_true rfl) (Nat.le_of_ble_eq_true rfl) rfl rfl fl_X12_158 eX12_liesOnOne_27 ?_
          refine g_ild1 eX12_liesOnOne_30 ?_
          refine g_iald rfl (Nat.le_of_ble_eq_true rfl) hin4 eX12_liesOnOne_31 ?_
          rw [hr79, eC, p3]
          refine g_icmp_ge eX12_liesOnOne_32 (fun hb4 => ?_) (fun hb4 => ?_)
          · rw [nI_leI (by omega) (by omega)] at hb4
            have hkc : k ≤ fb_ct (bitS m) a := by omega
            rw [show min k (fb_ct (bitS m) a) = k by omega]
            rw [show min k (fb_ct (bitS m) a + 1) = k by omega] at nx
            refine g_ald0 eX12_liesOnOne_49 ?_
            refine g_ild1 eX12_liesOnOne_50 ?_
            refine g_ild3 eX12_liesOnOne_51 ?_
            refine g_ild4 eX12_liesOnOne_52 ?_
            refine g_i2l eX12_liesOnOne_54 ?_
            refine g_callVl (ci := 11) (w_through _ i hi (by rw [mptY_sR]; exact p5) k p4 (fun c => (f c).toInt.toNat) (fun c hc9 => by rw [sR_at]; exact ptsW_pt (by omega) hkc hW hc9) (nI a).toInt64 (by rw [tl, ea]; omega)) rfl (Nat.le_of_ble_eq_true rfl) (Nat.le_of_ble_eq_true rfl) rfl cv_X12_499 eX12_liesOnOne_55 ⟨Nat.le_of_ble_eq_true rfl, Nat.le_of_ble_eq_true rfl⟩ rfl rfl (Nat.le_of_ble_eq_true rfl) (fun r u h => ?_)
            obtain ⟨rfl, hr⟩ := h
            rw [mptY_sR, tl, ea] at hr
            have hv := th_va (ptsW_enum hm6 (by omega) hkc hW) (mptY st i) (a : Int)
            have hmono := fb_ct_mono (bitS m) (m := a) (n := 7) (by omega)
            rw [first_ct m hm6 k (by omega) 7 (by decide), show min k (fb_ct (bitS m) 7) = k by omega] at hv
            rw [hv] at hr
            refine g_ald0 eX12_liesOnOne_58 ?_
            refine g_getR (ci := 11) (j := 75) rfl (Nat.le_of_ble_eq_true rfl) (Nat.le_of_ble_eq_true rfl) (Nat.le_of_ble_eq_true rfl) rfl rfl fl_X12_161 eX12_liesOnOne_59 ?_
            refine g_bipush (v := 6) (by decide) eX12_liesOnOne_62 ?_
            refine g_ild1 eX12_liesOnOne_64 ?_
            refine g_imul eX12_liesOnOne_65 ?_
            refine g_ild4 eX12_liesOnOne_66 ?_
            refine g_iadd eX12_liesOnOne_68 ?_
            refine g_iconst (v := 1) (by decide) eX12_liesOnOne_69 ?_
            refine g_isub eX12_liesOnOne_70 ?_
            rw [ix6 ha1]
            refine g_lald rfl (Nat.le_of_ble_eq_true rfl) (vp_in_nI (n := 6 * i + a - 1) (N := 24) (by omega) (by decide)) eX12_liesOnOne_71 ?_
            rw [nI_clamp (by omega), sR_2]
            refine g_lcmp eX12_liesOnOne_72 ?_
            refine g_if_eq eX12_liesOnOne_73 (fun hb5 => ?_) (fun hb5 => ?_)
            · rw [cmp_eq, hr] at hb5
              refine g_inc4 rfl (Nat.le_of_ble_eq_true rfl) rfl eX12_liesOnOne_78 ?_
              refine g_goto eX12_liesOnOne_81 ?_
              rw [inc1]
              refine nx f (by omega) (by omega) (fun j hj hbj hcj => ?_) (fun j hj hbj hcj => ?_)
              · by_cases hja : j = a
                · rw [hja] at hcj; omega
                · exact hW j (by omega) hbj hcj
              · by_cases hja : j = a
                · rw [hja]; exact hb5
                · exact hall j (by omega) hbj hcj
            · rw [cmp_eq, hr] at hb5
              refine g_iconst (v := 0) (by decide) eX12_liesOnOne_76 ?_
              refine g_zret (ty := .boolean) rfl (by first | rfl | assumption) eX12_liesOnOne_77 ⟨_, rfl, ?_⟩
              try dsimp only
              exact ⟨⟨f, rfl⟩, Or.inr ⟨rfl, fun h => hb5 (h a (by omega) hb3)⟩⟩
          · rw [nI_leI (by omega) (by omega)] at hb4
            have hkc : fb_ct (bitS m) a < k := by omega
            rw [show min k (fb_ct (bitS m) a) = fb_ct (bitS m) a by omega]
            rw [show min k (fb_ct (bitS m) a + 1) = fb_ct (bitS m) a + 1 by omega] at nx
            refine g_ald0 eX12_liesOnOne_35 ?_
            refine g_getR (ci := 11) (j := 76) rfl (Nat.le_of_ble_eq_true rfl) (Nat.le_of_ble_eq_true rfl) (Nat.le_of_ble_eq_true rfl) rfl rfl fl_X12_164 eX12_liesOnOne_36 ?_
            refine g_ild3 eX12_liesOnOne_39 ?_
            refine g_ild4 eX12_liesOnOne_40 ?_
            refine g_iast rfl (Nat.le_of_ble_eq_true rfl) (vp_in_nI (n := fb_ct (bitS m) a) (N := 6) (by omega) (by decide)) eX12_liesOnOne_42 ?_
            rw [nI_clamp (by omega), sI_sR]
            refine g_inc3 rfl (Nat.le_of_ble_eq_true rfl) rfl eX12_liesOnOne_43 ?_
            refine g_goto eX12_liesOnOne_46 ?_
            rw [inc1]
            refine g_inc4 rfl (Nat.le_of_ble_eq_true rfl) rfl eX12_liesOnOne_78 ?_
            refine g_goto eX12_liesOnOne_81 ?_
            rw [inc1]
            refine nx _ (by omega) (by omega) (fun j hj hbj hcj => ?_) (fun j hj hbj hcj => ?_)
            · by_cases hja : j = a
              · rw [hja]; exact if_pos rfl
              · have hne : fb_ct (bitS m) j ≠ fb_ct (bitS m) a := fun q => hja (fb_ct_kth_one hbj hb3 q)
                rw [show upd f (fb_ct (bitS m) a) (nI a) (fb_ct (bitS m) j) = f (fb_ct (bitS m) j) from if_neg hne]
                exact hW j (by omega) hbj hcj
            · by_cases hja : j = a
              · rw [hja] at hcj; omega
              · exact hall j (by omega) hbj hcj
        · rw [nI_eq (by omega) (by omega)] at hb2
          have hb3 : ¬ bitS m a = true := fun q => by rw [hbit] at q; exact (of_decide_eq_true q).2.2 hb2
          rw [if_neg hb3, Nat.add_zero] at nx
          refine g_goto eX12_liesOnOne_22 ?_
          refine g_inc4 rfl (Nat.le_of_ble_eq_true rfl) rfl eX12_liesOnOne_78 ?_
          refine g_goto eX12_liesOnOne_81 ?_
          rw [inc1]
          refine nx f (by omega) (by omega) (fun j hj hbj hcj => ?_) (fun j hj hbj hcj => ?_)
          · by_cases hja : j = a
            · rw [hja] at hbj; exact absurd hbj hb3
            · exact hW j (by omega) hbj hcj
          · by_cases hja : j = a
            · rw [hja] at hbj; exact absurd hbj hb3
            · exact hall j (by omega) hbj hcj
  refine g_iconst (v := 0) (by decide) eX12_liesOnOne_0 ?_
  refine g_ist3 rfl (Nat.le_of_ble_eq_true rfl) eX12_liesOnOne_1 ?_
  refine g_iconst (v := 1) (by decide) eX12_liesOnOne_2 ?_
  refine g_ist4 rfl (Nat.le_of_ble_eq_true rfl) eX12_liesOnOne_3 ?_
  have e0 : st = sR st 81 (st.1 81) := by rw [sR_same]
  have go := loop n 1 (st.1 81) (by omega) (Nat.le_refl _) (fun j hj hb _ => by have := bit_ge hb; omega) (fun j hj hb _ => by have := bit_ge hb; omega)
  rw [← e0, show min k (fb_ct (bitS m) 1) = 0 by show min k 0 = 0; omega] at go
  exact go
end PARTI
