/-! even on both sides -/
section EVEN
variable {l : Launch} {D : va_G} {cy : Nat → ClassId}
/-- how often a rest comes, over r rows of n places -/
def evR (F : Nat → Nat → Int) (n : Nat) : Nat → Nat → Nat
  | 0, _ => 0
  | r + 1, v => evR F n r v + fb_ct (fun e => decide (F r e = (v : Int))) n
theorem evR_succ (F : Nat → Nat → Int) (n r v : Nat) : evR F n (r + 1) v = evR F n r v + fb_ct (fun e => decide (F r e = (v : Int))) n := rfl
theorem evR_le (F : Nat → Nat → Int) (n : Nat) : ∀ r v, evR F n r v ≤ r * n
  | 0, v => Nat.zero_le _
  | r + 1, v => by
    have h1 := evR_le F n r v
    have h2 := fb_ct_le (fun e => decide (F r e = (v : Int))) n
    rw [evR_succ, Nat.succ_mul]
    omega
def evF (p q b t m w : Int) (r e : Nat) : Int := maskF p q t m (r : Int) ((e : Int) - b) % w
def evV (p q b t m w : Int) (v : Nat) : Nat := evR (evF p q b t m w) (2 * b + 1).toNat q.toNat v
def mxF (c : Nat → Nat) : Nat → Nat
  | 0 => c 0
  | n + 1 => max (mxF c n) (c (n + 1))
def mnF (c : Nat → Nat) : Nat → Nat
  | 0 => c 0
  | n + 1 => min (mnF c n) (c (n + 1))
theorem mxF_le {c : Nat → Nat} {N : Nat} : ∀ {n : Nat}, (∀ j, j ≤ n → c j ≤ N) → mxF c n ≤ N
  | 0, h => h 0 (Nat.le_refl _)
  | n + 1, h => by
    have h1 := mxF_le (n := n) (fun j hj => h j (by omega))
    have h2 := h (n + 1) (Nat.le_refl _)
    show max (mxF c n) (c (n + 1)) ≤ N
    omega
theorem mn_le_mx (c : Nat → Nat) : ∀ n, mnF c n ≤ mxF c n
  | 0 => Nat.le_refl _
  | n + 1 => by
    have h1 := mn_le_mx c n
    show min (mnF c n) (c (n + 1)) ≤ max (mxF c n) (c (n + 1))
    omega
theorem mxF_cong {c d : Nat → Nat} : ∀ {n : Nat}, (∀ j, j ≤ n → c j = d j) → mxF c n = mxF d n ∧ mnF c n = mnF d n
  | 0, h => ⟨h 0 (Nat.le_refl _), h 0 (Nat.le_refl _)⟩
  | n + 1, h => by
    have h1 := mxF_cong (n := n) (fun j hj => h j (by omega))
    show max (mxF c n) (c (n + 1)) = max (mxF d n) (d (n + 1)) ∧ min (mnF c n) (c (n + 1)) = min (mnF d n) (d (n + 1))
    rw [h1.1, h1.2, h (n + 1) (Nat.le_refl _)]
    exact ⟨rfl, rfl⟩
theorem nI_max {a b : Nat} (ha : a < 2 ^ 31) (hb : b < 2 ^ 31) : (if nI a < nI b then nI b else nI a) = nI (max a b) := by
  by_cases h : a < b
  · rw [if_pos (nI_lt h hb), Nat.max_eq_right (Nat.le_of_lt h)]
  · rw [if_neg (nI_nlt (by omega) ha), Nat.max_eq_left (by omega)]
theorem nI_min {a b : Nat} (ha : a < 2 ^ 31) (hb : b < 2 ^ 31) : (if nI b < nI a then nI b else nI a) = nI (min a b) := by
  by_cases h : b < a
  · rw [if_pos (nI_lt h ha), Nat.min_eq_right (Nat.le_of_lt h)]
  · rw [if_neg (nI_nlt (by omega) hb), Nat.min_eq_left (by omega)]
theorem ev_step {F : Nat → Nat → Int} {n r e j : Nat} {f : Nat → Int32} {N : Nat} (hf : ∀ v, v < N → f v = nI (evR F n r v + fb_ct (fun x => decide (F r x = (v : Int))) e)) (hj : F r e = (j : Int)) : ∀ v, v < N → upd f j (f j + 1) v = nI (evR F n r v + fb_ct (fun x => decide (F r x = (v : Int))) (e + 1)) := by
  intro v hv
  rw [fb_ct_succ]
  by_cases h : v = j
  · subst h
    rw [show upd f v (f v + 1) v = f v + 1 from if_pos rfl, hf v hv, nI_1, hj, decide_eq_true rfl, if_pos rfl]
    rfl
  · rw [show upd f j (f j + 1) v = f v from if_neg h, hf v hv, decide_eq_false (fun q => h (by rw [hj] at q; omega))]
    rfl
theorem m_countRests (st : St) {i : Nat} (hi : i < 4) (hk : keyAt st i) (t m0 : Int32) (ht : 2 ≤ t.toInt ∧ t.toInt ≤ 13) (hm : 0 ≤ m0.toInt ∧ m0.toInt < 13) (w : Nat) (hw : 2 ≤ w ∧ w ≤ 16) : Mv l D cy 2 YX2_countRests [.ref (83 + 3 * i), .int t, .int m0, .int (nI w), .ref 28] st (fun u => ∃ f, u = sR st 28 f ∧ ∀ v, v < 16 → f v = nI (evV (kP st i) (kQ st i) (kB st i) t.toInt m0.toInt w v)) := by
  have hk9 := hk
  obtain ⟨k1, k2, k3, k4, k5, k6⟩ := hk
  have hrow : ∀ f : Nat → Int32, (sR st 28 f).1 (83 + 3 * i) = st.1 (83 + 3 * i) := fun f => sR_ne (by omega)
  have h9q : kQ st i = (st.1 (83 + 3 * i) 1).toInt := rfl
  have h9b : kB st i = (st.1 (83 + 3 * i) 2).toInt := rfl
  obtain ⟨Q, hQ⟩ : ∃ Q : Nat, Q = (kQ st i).toNat := ⟨_, rfl⟩
  have eQ : st.1 (83 + 3 * i) 1 = nI Q := by rw [fa_eq, nI_toInt (by omega)]; omega
  refine M.ofG [some (.ref (83 + 3 * i)), some (.int t), some (.int m0), some (.int (nI w)), some (.ref 28), none, none, none] (by decide) (Nat.le_of_ble_eq_true rfl) rfl ?_
  intro xp xe xs xm xa xb xme xc xad xA
  have outer : ∀ (d r : Nat) (f : Nat → Int32) (y6 y7 : Option Value), r + d = Q → (∀ v, v < 16 → f v = nI (evR (evF (kP st i) (kQ st i) (kB st i) t.toInt m0.toInt w) (2 * kB st i + 1).toNat r v)) → G xp l xe (rmd (2)) xs xm xa xb xme xc D cy xad xA (YX2_countRests.2.1, YX2_countRests.1.cls, YX2_countRests.2.2.1, YX2_countRests.2.2.2) (Pv (fun (u : St) => ∃ f, u = sR st 28 f ∧ ∀ v, v < 16 → f v = nI (evV (kP st i) (kQ st i) (kB st i) t.toInt m0.toInt w v))) 26 ([some (.ref (83 + 3 * i)), some (.int t), some (.int m0), some (.int (nI w)), some (.ref 28), some (.int (nI r)), y6, y7]) ([]) (sR st 28 f) := by
    intro d
    induction d with
    | zero =>
      intro r f y6 y7 hr hf
      refine g_ild5 eX2_countRests_26 ?_
      refine g_ald0 eX2_countRests_28 ?_
      refine g_getI (ci := 2) (j := 1) (by first | rfl | exact kd_key hi | exact kd_sh hi | exact kd_ya hi | exact kd_pr hq | exact kd_pk hq | exact kd_pf hq | exact kd_ps hq | exact kd_po hq | exact kd_pr hq2 | exact kd_pk hq2 | exact kd_pf hq2 | exact kd_ps hq2 | exact kd_po hq2) (by first | decide | (unfold N0; omega)) (Nat.le_of_ble_eq_true rfl) (Nat.le_of_ble_eq_true rfl) rfl fl_X2_13 eX2_countRests_29 ?_
      rw [hrow f, eQ]
      refine g_icmp_ge eX2_countRests_32 (fun hb => ?_) (fun hb => ?_)
      · refine g_vret rfl eX2_countRests_97 ⟨rfl, ?_⟩
        try dsimp only
        refine ⟨f, rfl, fun v hv => ?_⟩
        rw [hf v hv]
        unfold evV
        rw [show (kQ st i).toNat = r by omega]
      · exact absurd (nI_le (by omega) (by omega)) hb
    | succ d ih =>
      intro r f y6 y7 hr hf
      refine g_ild5 eX2_countRests_26 ?_
      refine g_ald0 eX2_countRests_28 ?_
      refine g_getI (ci := 2) (j := 1) (by first | rfl | exact kd_key hi | exact kd_sh hi | exact kd_ya hi | exact kd_pr hq | exact kd_pk hq | exact kd_pf hq | exact kd_ps hq | exact kd_po hq | exact kd_pr hq2 | exact kd_pk hq2 | exact kd_pf hq2 | exact kd_ps hq2 | exact kd_po hq2) (by first | decide | (unfold N0; omega)) (Nat.le_of_ble_eq_true rfl) (Nat.le_of_ble_eq_true rfl) rfl fl_X2_13 eX2_countRests_29 ?_
      rw [hrow f, eQ]
      refine g_icmp_ge eX2_countRests_32 (fun hb => ?_) (fun hb => ?_)
      · exact absurd hb (nI_ge (by omega) (by omega))
      · refine g_ald0 eX2_countRests_35 ?_
        refine g_getI (ci := 2) (j := 2) (by first | rfl | exact kd_key hi | exact kd_sh hi | exact kd_ya hi | exact kd_pr hq | exact kd_pk hq | exact kd_pf hq | exact kd_ps hq | exact kd_po hq | exact kd_pr hq2 | exact kd_pk hq2 | exact kd_pf hq2 | exact kd_ps hq2 | exact kd_po hq2) (by first | decide | (unfold N0; omega)) (Nat.le_of_ble_eq_true rfl) (Nat.le_of_ble_eq_true rfl) rfl fl_X2_16 eX2_countRests_36 ?_
        rw [hrow f]
        have hneg : (-(st.1 (83 + 3 * i) 2)).toInt = -(st.1 (83 + 3 * i) 2).toInt := fb_negI (by omega)
        refine g_ineg eX2_countRests_39 ?_
        refine g_ist6 rfl (Nat.le_of_ble_eq_true rfl) eX2_countRests_40 ?_
        have inner : ∀ (dd e : Nat) (ee : Int32) (f : Nat → Int32) (y7 : Option Value), e + dd = (2 * kB st i + 1).toNat → ee.toInt = (e : Int) - kB st i → (∀ v, v < 16 → f v = nI (evR (evF (kP st i) (kQ st i) (kB st i) t.toInt m0.toInt w) (2 * kB st i + 1).toNat r v + fb_ct (fun x => decide (evF (kP st i) (kQ st i) (kB st i) t.toInt m0.toInt w r x = (v : Int))) e)) → G xp l xe (rmd (2)) xs xm xa xb xme xc D cy xad xA (YX2_countRests.2.1, YX2_countRests.1.cls, YX2_countRests.2.2.1, YX2_countRests.2.2.2) (Pv (fun (u : St) => ∃ f, u = sR st 28 f ∧ ∀ v, v < 16 → f v = nI (evV (kP st i) (kQ st i) (kB st i) t.toInt m0.toInt w v))) 42 ([some (.ref (83 + 3 * i)), some (.int t), some (.int m0), some (.int (nI w)), some (.ref 28), some (.int (nI r)), some (.int ee), y7]) ([]) (sR st 28 f) := by
          intro dd
          induction dd with
          | zero =>
            intro e ee f y7 he hee hf
            refine g_ild6 eX2_countRests_42 ?_
            refine g_ald0 eX2_countRests_44 ?_
            refine g_getI (ci := 2) (j := 2) (by first | rfl | exact kd_key hi | exact kd_sh hi | exact kd_ya hi | exact kd_pr hq | exact kd_pk hq | exact kd_pf hq | exact kd_ps hq | exact kd_po hq | exact kd_pr hq2 | exact kd_pk hq2 | exact kd_pf hq2 | exact kd_ps hq2 | exact kd_po hq2) (by first | decide | (unfold N0; omega)) (Nat.le_of_ble_eq_true rfl) (Nat.le_of_ble_eq_true rfl) rfl fl_X2_16 eX2_countRests_45 ?_
            rw [hrow f]
            refine g_icmp_gt eX2_countRests_48 (fun hb2 => ?_) (fun hb2 => ?_)
            · refine g_inc5 rfl (Nat.le_of_ble_eq_true rfl) rfl eX2_countRests_91 ?_
              refine g_goto eX2_countRests_94 ?_
              rw [inc1]
              refine ih (r + 1) f _ _ (by omega) (fun v hv => ?_)
              rw [hf v hv, evR_succ, show e = (2 * kB st i + 1).toNat by omega]
            · rw [fa_lt, hee] at hb2
              exfalso
              have h9 : kB st i = (st.1 (83 + 3 * i) 2).toInt := rfl
              omega
          | succ dd ih2 =>
            intro e ee f y7 he hee hf
            have h9 : kB st i = (st.1 (83 + 3 * i) 2).toInt := rfl
            refine g_ild6 eX2_countRests_42 ?_
            refine g_ald0 eX2_countRests_44 ?_
            refine g_getI (ci := 2) (j := 2) (by first | rfl | exact kd_key hi | exact kd_sh hi | exact kd_ya hi | exact kd_pr hq | exact kd_pk hq | exact kd_pf hq | exact kd_ps hq | exact kd_po hq | exact kd_pr hq2 | exact kd_pk hq2 | exact kd_pf hq2 | exact kd_ps hq2 | exact kd_po hq2) (by first | decide | (unfold N0; omega)) (Nat.le_of_ble_eq_true rfl) (Nat.le_of_ble_eq_true rfl) rfl fl_X2_16 eX2_countRests_45 ?_
            rw [hrow f]
            refine g_icmp_gt eX2_countRests_48 (fun hb2 => ?_) (fun hb2 => ?_)
            · rw [fa_lt, hee] at hb2
              exfalso
              omega
            · refine g_ald0 eX2_countRests_51 ?_
              refine g_ild1 eX2_countRests_52 ?_
              refine g_ild2 eX2_countRests_53 ?_
              refine g_ild5 eX2_countRests_54 ?_
              refine g_ild6 eX2_countRests_56 ?_
              refine g_callVi (ci := 2) (m_maskedC _ hi (key_sR (by decide) hk9) t m0 (nI r) ee ht hm (by rw [nI_toInt (by omega)]; omega) (by omega)) (by first | rfl | exact kd_key hi | exact kd_sh hi | exact kd_ya hi | exact kd_pr hq | exact kd_pk hq | exact kd_pf hq | exact kd_ps hq | exact kd_po hq | exact kd_pr hq2 | exact kd_pk hq2 | exact kd_pf hq2 | exact kd_ps hq2 | exact kd_po hq2) (by first | decide | (unfold N0; omega)) (Nat.le_of_ble_eq_true rfl) rfl cv_X2_37 eX2_countRests_58 ⟨Nat.le_of_ble_eq_true rfl, Nat.le_of_ble_eq_true rfl⟩ rfl rfl (Nat.le_of_ble_eq_true rfl) (fun z u h => ?_)
              obtain ⟨rfl, hz⟩ := h
              rw [hrow f, nI_toInt (by omega), hee] at hz
              refine g_i2l eX2_countRests_61 ?_
              refine g_ild3 eX2_countRests_62 ?_
              refine g_callSi (m_rest _ _ (nI w) (by rw [nI_toInt (by omega)]; omega)) cs_X2_45 eX2_countRests_63 ⟨Nat.le_of_ble_eq_true rfl, Nat.le_of_ble_eq_true rfl⟩ rfl rfl (Nat.le_of_ble_eq_true rfl) (fun z2 u h => ?_)
              obtain ⟨rfl, hz2⟩ := h
              rw [tl, hz, nI_toInt (by omega)] at hz2
              have hz3 : z2.toInt = evF (kP st i) (kQ st i) (kB st i) t.toInt m0.toInt w r e := hz2
              have hlo := Int.emod_nonneg (maskF (st.1 (83 + 3 * i) 0).toInt (st.1 (83 + 3 * i) 1).toInt t.toInt m0.toInt (r : Int) ((e : Int) - kB st i)) (b := (w : Int)) (by omega)
              have hhi := Int.emod_lt_of_pos (maskF (st.1 (83 + 3 * i) 0).toInt (st.1 (83 + 3 * i) 1).toInt t.toInt m0.toInt (r : Int) ((e : Int) - kB st i)) (b := (w : Int)) (by omega)
              rw [← hz2] at hlo hhi
              clear hz2
              obtain ⟨j, hj, rfl⟩ := as_nI (x := z2) (n := w) ⟨hlo, hhi⟩
              rw [nI_toInt (by omega)] at hz3
              refine g_ist7 rfl (Nat.le_of_ble_eq_true rfl) eX2_countRests_66 ?_
              refine g_ild7 eX2_countRests_68 ?_
              refine g_ald4 eX2_countRests_70 ?_
              refine g_alen (by first | decide | (rw [kd_ya hi]; decide)) (by first | decide | (rw [kd_ya hi]; decide)) (by first | decide | (unfold N0; omega)) rfl eX2_countRests_72 ?_
              refine g_icmp_ge eX2_countRests_73 (fun hb3 => ?_) (fun hb3 => ?_)
              · exact absurd hb3 (nI_ge (a := j) (b := 16) (by omega) (by decide))
              · have hcj : (nI j).toNatClampNeg = j := nI_clamp (by omega)
                refine g_ald4 eX2_countRests_76 ?_
                refine g_ild7 eX2_countRests_78 ?_
                refine g_dup2 rfl rfl eX2_countRests_80 ?_
                refine g_iald (by first | rfl | exact kd_key hi | exact kd_sh hi | exact kd_ya hi | exact kd_pr hq | exact kd_pk hq | exact kd_pf hq | exact kd_ps hq | exact kd_po hq | exact kd_pr hq2 | exact kd_pk hq2 | exact kd_pf hq2 | exact kd_ps hq2 | exact kd_po hq2) (by first | decide | (unfold N0; omega)) (vp_in_nI (n := j) (N := 16) (by omega) (by decide)) eX2_countRests_81 ?_
                refine g_iconst (v := 1) (by decide) eX2_countRests_82 ?_
                refine g_iadd eX2_countRests_83 ?_
                refine g_iast (by first | rfl | exact kd_key hi | exact kd_sh hi | exact kd_ya hi | exact kd_pr hq | exact kd_pk hq | exact kd_pf hq | exact kd_ps hq | exact kd_po hq | exact kd_pr hq2 | exact kd_pk hq2 | exact kd_pf hq2 | exact kd_ps hq2 | exact kd_po hq2) (by first | decide | (unfold N0; omega)) (vp_in_nI (n := j) (N := 16) (by omega) (by decide)) eX2_countRests_84 ?_
                rw [hcj, sI_sR, sR_at]
                refine g_inc6 rfl (Nat.le_of_ble_eq_true rfl) rfl eX2_countRests_85 ?_
                refine g_goto eX2_countRests_88 ?_
                refine ih2 (e + 1) _ _ _ (by omega) ?_ (ev_step hf hz3.symm)
                rw [addK (Int32.ofInt 1) (k := 1) rfl (by omega) (by omega)]
                omega
        refine inner (2 * kB st i + 1).toNat 0 _ f _ (by omega) (by rw [hneg]; show _ = ((0 : Nat) : Int) - (st.1 (83 + 3 * i) 2).toInt; omega) (fun v hv => ?_)
        rw [hf v hv]
        rfl
  have zero : ∀ (d a : Nat) (f : Nat → Int32), a + d = 16 → (∀ v, v < a → f v = 0) → G xp l xe (rmd (2)) xs xm xa xb xme xc D cy xad xA (YX2_countRests.2.1, YX2_countRests.1.cls, YX2_countRests.2.2.1, YX2_countRests.2.2.2) (Pv (fun (u : St) => ∃ f, u = sR st 28 f ∧ ∀ v, v < 16 → f v = nI (evV (kP st i) (kQ st i) (kB st i) t.toInt m0.toInt w v))) 3 ([some (.ref (83 + 3 * i)), some (.int t), some (.int m0), some (.int (nI w)), some (.ref 28), some (.int (nI a)), none, none]) ([]) (sR st 28 f) := by
    intro d
    induction d with
    | zero =>
      intro a f ha hf
      have ha2 : a = 16 := by omega
      subst ha2
      refine g_ild5 eX2_countRests_3 ?_
      refine g_ald4 eX2_countRests_5 ?_
      refine g_alen (by first | decide | (rw [kd_ya hi]; decide)) (by first | decide | (rw [kd_ya hi]; decide)) (by first | decide | (unfold N0; omega)) rfl eX2_countRests_7 ?_
      refine g_icmp_ge eX2_countRests_8 (fun hb => ?_) (fun hb => ?_)
      · refine g_iconst (v := 0) (by decide) eX2_countRests_23 ?_
        refine g_ist5 rfl (Nat.le_of_ble_eq_true rfl) eX2_countRests_24 ?_
        refine outer Q 0 f _ _ (by omega) (fun v hv => ?_)
        rw [hf v hv]
        rfl
      · exact absurd (show (16 : Int32) ≤ nI 16 by decide) hb
    | succ d ih =>
      intro a f ha hf
      refine g_ild5 eX2_countRests_3 ?_
      refine g_ald4 eX2_countRests_5 ?_
      refine g_alen (by first | decide | (rw [kd_ya hi]; decide)) (by first | decide | (rw [kd_ya hi]; decide)) (by first | decide | (unfold N0; omega)) rfl eX2_countRests_7 ?_
      refine g_icmp_ge eX2_countRests_8 (fun hb => ?_) (fun hb => ?_)
      · exact absurd hb (nI_ge (a := a) (b := 16) (by omega) (by decide))
      · refine g_ald4 eX2_countRests_11 ?_
        refine g_ild5 eX2_countRests_13 ?_
        refine g_iconst (v := 0) (by decide) eX2_countRests_15 ?_
        refine g_iast (by first | rfl | exact kd_key hi | exact kd_sh hi | exact kd_ya hi | exact kd_pr hq | exact kd_pk hq | exact kd_pf hq | exact kd_ps hq | exact kd_po hq | exact kd_pr hq2 | exact kd_pk hq2 | exact kd_pf hq2 | exact kd_ps hq2 | exact kd_po hq2) (by first | decide | (unfold N0; omega)) (vp_in_nI (n := a) (N := 16) (by omega) (by decide)) eX2_countRests_16 ?_
        rw [nI_clamp (by omega), sI_sR]
        refine g_inc5 rfl (Nat.le_of_ble_eq_true rfl) rfl eX2_countRests_17 ?_
        refine g_goto eX2_countRests_20 ?_
        rw [inc1]
        refine ih (a + 1) _ (by omega) (fun v hv => ?_)
        by_cases h : v = a
        · rw [h]; exact if_pos rfl
        · rw [show upd f a 0 v = f v from if_neg h]; exact hf v (by omega)
  refine g_iconst (v := 0) (by decide) eX2_countRests_0 ?_
  refine g_ist5 rfl (Nat.le_of_ble_eq_true rfl) eX2_countRests_1 ?_
  have e0 : st = sR st 28 (st.1 28) := by rw [sR_same]
  have go := zero 16 0 (st.1 28) (by omega) (fun v hv => by omega)
  rw [← e0] at go
  exact go
def evenF (p q b t m : Int) (w : Nat) : Int := (mxF (evV p q b t m w) (w - 1) : Int) - (mnF (evV p q b t m w) (w - 1) : Int)
theorem evV_le {p q b t m w : Int} (hq : q ≤ 1000) (hq0 : 0 ≤ q) (hb : b ≤ 10) (hb0 : 0 ≤ b) (v : Nat) : evV p q b t m w v ≤ 21000 := by
  have h := evR_le (evF p q b t m w) (2 * b + 1).toNat q.toNat v
  have h2 : q.toNat * (2 * b + 1).toNat ≤ 1000 * 21 := Nat.mul_le_mul (by omega) (by omega)
  unfold evV
  omega
theorem m_even (st : St) {nk n : Nat} (hx : xOK st nk n) (k m0 w : Int32) : Mi l D cy 4 YX11_even [.ref 0, .int k, .int m0, .int w] st (fun r u => if isS nk k ∧ (0 ≤ m0.toInt ∧ m0.toInt < (st.1 0 0).toInt) ∧ 2 ≤ w.toInt ∧ w.toInt ≤ 16 then (∃ f, u = sR st 28 f) ∧ r.toInt = evenF (kP st (qI k)) (kQ st (qI k)) (kB st (qI k)) (st.1 0 0).toInt m0.toInt (qI w) else r = -1 ∧ u = st) := by
  obtain ⟨x1, x2, x3, x4, x5, x6, x7, x8⟩ := hx
  have hkc : (st.1 0 7).toInt = nk := by rw [x1, nI_toInt (by omega)]
  refine M.ofG [some (.ref 0), some (.int k), some (.int m0), some (.int w), none, none, none] (by decide) (Nat.le_of_ble_eq_true rfl) rfl ?_
  intro xp xe xs xm xa xb xme xc xad xA
  have bad : ¬ (isS nk k ∧ (0 ≤ m0.toInt ∧ m0.toInt < (st.1 0 0).toInt) ∧ 2 ≤ w.toInt ∧ w.toInt ≤ 16) → G xp l xe (rmd (4)) xs xm xa xb xme xc D cy xad xA (YX11_even.2.1, YX11_even.1.cls, YX11_even.2.2.1, YX11_even.2.2.2) (Pi (fun (r : Int32) (u : St) => if isS nk k ∧ (0 ≤ m0.toInt ∧ m0.toInt < (st.1 0 0).toInt) ∧ 2 ≤ w.toInt ∧ w.toInt ≤ 16 then (∃ f, u = sR st 28 f) ∧ r.toInt = evenF (kP st (qI k)) (kQ st (qI k)) (kB st (qI k)) (st.1 0 0).toInt m0.toInt (qI w) else r = -1 ∧ u = st)) 27 ([some (.ref 0), some (.int k), some (.int m0), some (.int w), none, none, none]) ([]) (st) := by
    intro hb
    refine g_iconst (v := (-1)) (by decide) eX11_even_27 ?_
    refine g_iret rfl eX11_even_28 ⟨_, rfl, ?_⟩
    try dsimp only
    rw [if_neg hb]
    exact ⟨rfl, rfl⟩
  refine g_ald0 eX11_even_0 ?_
  refine g_ild1 eX11_even_1 ?_
  refine g_callVi (ci := 10) (m_isKey _ k) (by first | rfl | exact kd_key hi | exact kd_sh hi | exact kd_ya hi | exact kd_pr hq | exact kd_pk hq | exact kd_pf hq | exact kd_ps hq | exact kd_po hq | exact kd_pr hq2 | exact kd_pk hq2 | exact kd_pf hq2 | exact kd_ps hq2 | exact kd_po hq2) (by first | decide | (unfold N0; omega)) (Nat.le_of_ble_eq_true rfl) rfl cv_X11_234 eX11_even_2 ⟨Nat.le_of_ble_eq_true rfl, Nat.le_of_ble_eq_true rfl⟩ rfl rfl (Nat.le_of_ble_eq_true rfl) (fun r st h => ?_)
  obtain ⟨rfl, rfl⟩ := h
  rw [hkc]
  refine g_if_eq eX11_even_5 (fun hb => ?_) (fun hb => ?_)
  · rw [b2_eq0] at hb
    exact bad (fun h => hb h.1)
  · rw [b2_ne0] at hb
    refine g_ald0 eX11_even_8 ?_
    refine g_ild2 eX11_even_9 ?_
    refine g_callVi (ci := 10) (m_isPlain _ m0) (by first | rfl | exact kd_key hi | exact kd_sh hi | exact kd_ya hi | exact kd_pr hq | exact kd_pk hq | exact kd_pf hq | exact kd_ps hq | exact kd_po hq | exact kd_pr hq2 | exact kd_pk hq2 | exact kd_pf hq2 | exact kd_ps hq2 | exact kd_po hq2) (by first | decide | (unfold N0; omega)) (Nat.le_of_ble_eq_true rfl) rfl cv_X11_144 eX11_even_10 ⟨Nat.le_of_ble_eq_true rfl, Nat.le_of_ble_eq_true rfl⟩ rfl rfl (Nat.le_of_ble_eq_true rfl) (fun r st h => ?_)
    obtain ⟨rfl, rfl⟩ := h
    refine g_if_eq eX11_even_13 (fun hb2 => ?_) (fun hb2 => ?_)
    · rw [b2_eq0] at hb2
      exact bad (fun h => hb2 h.2.1)
    · rw [b2_ne0] at hb2
      refine g_ild3 eX11_even_16 ?_
      refine g_iconst (v := 2) (by decide) eX11_even_17 ?_
      refine g_icmp_lt eX11_even_18 (fun hb3 => ?_) (fun hb3 => ?_)
      · simp only [fa_lt, Int32.reduceToInt] at hb3
        exact bad (fun h => by have := h.2.2.1; omega)
      · simp only [fa_lt, Int32.reduceToInt] at hb3
        refine g_ild3 eX11_even_21 ?_
        refine g_bipush (v := 16) (by decide) eX11_even_22 ?_
        refine g_icmp_le eX11_even_24 (fun hb4 => ?_) (fun hb4 => ?_)
        · simp only [fa_le, Int32.reduceToInt] at hb4
          have hOK : isS nk k ∧ (0 ≤ m0.toInt ∧ m0.toInt < (st.1 0 0).toInt) ∧ 2 ≤ w.toInt ∧ w.toInt ≤ 16 := ⟨hb, hb2, by omega, hb4⟩
          obtain ⟨i, hik, rfl⟩ := as_nI hb
          have hi : i < 4 := by omega
          have e : qI (nI i) = i := nI_clamp (by omega)
          obtain ⟨w, hw, rfl⟩ := as_nI (x := w) (n := 17) (by omega)
          have ew : qI (nI w) = w := nI_clamp (by omega)
          rw [nI_toInt (by omega)] at hb3 hb4
          have hky := x6 i hik
          refine g_ald0 eX11_even_29 ?_
          refine g_getR (ci := 10) (j := 6) (by first | rfl | exact kd_key hi | exact kd_sh hi | exact kd_ya hi | exact kd_pr hq | exact kd_pk hq | exact kd_pf hq | exact kd_ps hq | exact kd_po hq | exact kd_pr hq2 | exact kd_pk hq2 | exact kd_pf hq2 | exact kd_ps hq2 | exact kd_po hq2) (by first | decide | (unfold N0; omega)) (Nat.le_of_ble_eq_true rfl) (Nat.le_of_ble_eq_true rfl) rfl (by first | rfl | exact r_key4 hi | exact r_sh0 hi | exact r_p0 hq | exact r_p1 hq | exact r_p2 hq | exact r_p3 hq | exact r_p0 hq2 | exact r_p1 hq2 | exact r_p2 hq2 | exact r_p3 hq2) fl_X11_29 eX11_even_30 ?_
          refine g_ild1 eX11_even_33 ?_
          refine g_aald (by decide) (Nat.le_of_ble_eq_true rfl) (keyIx hi).1 (keyIx hi).2 eX11_even_34 ?_
          refine g_ald0 eX11_even_35 ?_
          refine g_getI (ci := 10) (j := 0) (by first | rfl | exact kd_key hi | exact kd_sh hi | exact kd_ya hi | exact kd_pr hq | exact kd_pk hq | exact kd_pf hq | exact kd_ps hq | exact kd_po hq | exact kd_pr hq2 | exact kd_pk hq2 | exact kd_pf hq2 | exact kd_ps hq2 | exact kd_po hq2) (by first | decide | (unfold N0; omega)) (Nat.le_of_ble_eq_true rfl) (Nat.le_of_ble_eq_true rfl) rfl fl_X11_65 eX11_even_36 ?_
          refine g_ild2 eX11_even_39 ?_
          refine g_ild3 eX11_even_40 ?_
          refine g_ald0 eX11_even_41 ?_
          refine g_getR (ci := 10) (j := 13) (by first | rfl | exact kd_key hi | exact kd_sh hi | exact kd_ya hi | exact kd_pr hq | exact kd_pk hq | exact kd_pf hq | exact kd_ps hq | exact kd_po hq | exact kd_pr hq2 | exact kd_pk hq2 | exact kd_pf hq2 | exact kd_ps hq2 | exact kd_po hq2) (by first | decide | (unfold N0; omega)) (Nat.le_of_ble_eq_true rfl) (Nat.le_of_ble_eq_true rfl) rfl (by first | rfl | exact r_key4 hi | exact r_sh0 hi | exact r_p0 hq | exact r_p1 hq | exact r_p2 hq | exact r_p3 hq | exact r_p0 hq2 | exact r_p1 hq2 | exact r_p2 hq2 | exact r_p3 hq2) fl_X11_56 eX11_even_42 ?_
          refine g_callVv (ci := 2) (m_countRests _ hi hky _ m0 x5 (by have := x5.2; omega) w (by omega)) (by first | rfl | exact kd_key hi | exact kd_sh hi | exact kd_ya hi | exact kd_pr hq | exact kd_pk hq | exact kd_pf hq | exact kd_ps hq | exact kd_po hq | exact kd_pr hq2 | exact kd_pk hq2 | exact kd_pf hq2 | exact kd_ps hq2 | exact kd_po hq2) (by first | decide | (unfold N0; omega)) (Nat.le_of_ble_eq_true rfl) rfl cv_X11_333 eX11_even_45 ⟨Nat.le_of_ble_eq_true rfl, Nat.le_of_ble_eq_true rfl⟩ rfl rfl (Nat.le_of_ble_eq_true rfl) (fun u h => ?_)
          obtain ⟨f, rfl, hf⟩ := h
          generalize hcc : evV (kP st i) (kQ st i) (kB st i) (st.1 0 0).toInt m0.toInt w = cc at hf
          have hcl : ∀ v, cc v ≤ 21000 := fun v => by rw [← hcc]; exact evV_le hky.2.2.2.1 (by have := hky.2.2.1; omega) hky.2.2.2.2.2 hky.2.2.2.2.1 v
          have hml : ∀ a, mxF cc a ≤ 21000 := fun a => mxF_le (fun j _ => hcl j)
          have hmn : ∀ a, mnF cc a ≤ 21000 := fun a => Nat.le_trans (mn_le_mx cc a) (hml a)
          have loop : ∀ (d a : Nat), a + 1 + d = w → G xp l xe (rmd (4)) xs xm xa xb xme xc D cy xad xA (YX11_even.2.1, YX11_even.1.cls, YX11_even.2.2.1, YX11_even.2.2.2) (Pi (fun (r : Int32) (u : St) => if isS nk (nI i) ∧ (0 ≤ m0.toInt ∧ m0.toInt < (st.1 0 0).toInt) ∧ 2 ≤ (nI w).toInt ∧ (nI w).toInt ≤ 16 then (∃ f, u = sR st 28 f) ∧ r.toInt = evenF (kP st (qI (nI i))) (kQ st (qI (nI i))) (kB st (qI (nI i))) (st.1 0 0).toInt m0.toInt (qI (nI w)) else r = -1 ∧ u = st)) 67 ([some (.ref 0), some (.int (nI i)), some (.int m0), some (.int (nI w)), some (.int (nI (mxF cc a))), some (.int (nI (mnF cc a))), some (.int (nI (a + 1)))]) ([]) (sR st 28 f) := by
            intro d
            induction d with
            | zero =>
              intro a ha
              refine g_ild6 eX11_even_67 ?_
              refine g_ild3 eX11_even_69 ?_
              refine g_icmp_ge eX11_even_70 (fun hb5 => ?_) (fun hb5 => ?_)
              · refine g_ild4 eX11_even_107 ?_
                refine g_ild5 eX11_even_109 ?_
                refine g_isub eX11_even_111 ?_
                refine g_iret rfl eX11_even_112 ⟨_, rfl, ?_⟩
                try dsimp only
                rw [if_pos hOK, e, ew]
                refine ⟨⟨f, rfl⟩, ?_⟩
                have h1 := hml a
                have h2 := hmn a
                unfold evenF
                rw [fb_subI (by rw [nI_toInt (by omega), nI_toInt (by omega)]; omega) (by rw [nI_toInt (by omega), nI_toInt (by omega)]; omega), nI_toInt (by omega), nI_toInt (by omega), hcc, show w - 1 = a by omega]
              · exact absurd (nI_le (by omega) (by omega)) hb5
            | succ d ih =>
              intro a ha
              have hca : (nI (a + 1)).toNatClampNeg = a + 1 := nI_clamp (by omega)
              have h1 := hml a
              have h2 := hmn a
              have h3 := hcl (a + 1)
              refine g_ild6 eX11_even_67 ?_
              refine g_ild3 eX11_even_69 ?_
              refine g_icmp_ge eX11_even_70 (fun hb5 => ?_) (fun hb5 => ?_)
              · exact absurd hb5 (nI_ge (by omega) (by omega))
              · refine g_ild4 eX11_even_73 ?_
                refine g_ald0 eX11_even_75 ?_
                refine g_getR (ci := 10) (j := 13) (by first | rfl | exact kd_key hi | exact kd_sh hi | exact kd_ya hi | exact kd_pr hq | exact kd_pk hq | exact kd_pf hq | exact kd_ps hq | exact kd_po hq | exact kd_pr hq2 | exact kd_pk hq2 | exact kd_pf hq2 | exact kd_ps hq2 | exact kd_po hq2) (by first | decide | (unfold N0; omega)) (Nat.le_of_ble_eq_true rfl) (Nat.le_of_ble_eq_true rfl) rfl (by first | rfl | exact r_key4 hi | exact r_sh0 hi | exact r_p0 hq | exact r_p1 hq | exact r_p2 hq | exact r_p3 hq | exact r_p0 hq2 | exact r_p1 hq2 | exact r_p2 hq2 | exact r_p3 hq2) fl_X11_56 eX11_even_76 ?_
                refine g_ild6 eX11_even_79 ?_
                refine g_iald (by first | rfl | exact kd_key hi | exact kd_sh hi | exact kd_ya hi | exact kd_pr hq | exact kd_pk hq | exact kd_pf hq | exact kd_ps hq | exact kd_po hq | exact kd_pr hq2 | exact kd_pk hq2 | exact kd_pf hq2 | exact kd_ps hq2 | exact kd_po hq2) (by first | decide | (unfold N0; omega)) (vp_in_nI (n := a + 1) (N := 16) (by omega) (by decide)) eX11_even_81 ?_
                rw [hca, sR_at, hf _ (by omega)]
                refine g_imax mw_X11_337 ⟨Nat.le_of_ble_eq_true rfl, Nat.le_of_ble_eq_true rfl⟩ (Nat.le_of_ble_eq_true rfl) eX11_even_82 ?_
                rw [nI_max (by omega) (by omega)]
                refine g_ist4 rfl (Nat.le_of_ble_eq_true rfl) eX11_even_85 ?_
                refine g_ild5 eX11_even_87 ?_
                refine g_ald0 eX11_even_89 ?_
                refine g_getR (ci := 10) (j := 13) (by first | rfl | exact kd_key hi | exact kd_sh hi | exact kd_ya hi | exact kd_pr hq | exact kd_pk hq | exact kd_pf hq | exact kd_ps hq | exact kd_po hq | exact kd_pr hq2 | exact kd_pk hq2 | exact kd_pf hq2 | exact kd_ps hq2 | exact kd_po hq2) (by first | decide | (unfold N0; omega)) (Nat.le_of_ble_eq_true rfl) (Nat.le_of_ble_eq_true rfl) rfl (by first | rfl | exact r_key4 hi | exact r_sh0 hi | exact r_p0 hq | exact r_p1 hq | exact r_p2 hq | exact r_p3 hq | exact r_p0 hq2 | exact r_p1 hq2 | exact r_p2 hq2 | exact r_p3 hq2) fl_X11_56 eX11_even_90 ?_
                refine g_ild6 eX11_even_93 ?_
                refine g_iald (by first | rfl | exact kd_key hi | exact kd_sh hi | exact kd_ya hi | exact kd_pr hq | exact kd_pk hq | exact kd_pf hq | exact kd_ps hq | exact kd_po hq | exact kd_pr hq2 | exact kd_pk hq2 | exact kd_pf hq2 | exact kd_ps hq2 | exact kd_po hq2) (by first | decide | (unfold N0; omega)) (vp_in_nI (n := a + 1) (N := 16) (by omega) (by decide)) eX11_even_95 ?_
                rw [hca, sR_at, hf _ (by omega)]
                refine g_imin mw_X11_342 ⟨Nat.le_of_ble_eq_true rfl, Nat.le_of_ble_eq_true rfl⟩ (Nat.le_of_ble_eq_true rfl) eX11_even_96 ?_
                rw [nI_min (by omega) (by omega)]
                refine g_ist5 rfl (Nat.le_of_ble_eq_true rfl) eX11_even_99 ?_
                refine g_inc6 rfl (Nat.le_of_ble_eq_true rfl) rfl eX11_even_101 ?_
                refine g_goto eX11_even_104 ?_
                rw [inc1]
                exact ih (a + 1) (by omega)
          refine g_ald0 eX11_even_48 ?_
          refine g_getR (ci := 10) (j := 13) (by first | rfl | exact kd_key hi | exact kd_sh hi | exact kd_ya hi | exact kd_pr hq | exact kd_pk hq | exact kd_pf hq | exact kd_ps hq | exact kd_po hq | exact kd_pr hq2 | exact kd_pk hq2 | exact kd_pf hq2 | exact kd_ps hq2 | exact kd_po hq2) (by first | decide | (unfold N0; omega)) (Nat.le_of_ble_eq_true rfl) (Nat.le_of_ble_eq_true rfl) rfl (by first | rfl | exact r_key4 hi | exact r_sh0 hi | exact r_p0 hq | exact r_p1 hq | exact r_p2 hq | exact r_p3 hq | exact r_p0 hq2 | exact r_p1 hq2 | exact r_p2 hq2 | exact r_p3 hq2) fl_X11_56 eX11_even_49 ?_
          refine g_iconst (v := 0) (by decide) eX11_even_52 ?_
          refine g_iald (by first | rfl | exact kd_key hi | exact kd_sh hi | exact kd_ya hi | exact kd_pr hq | exact kd_pk hq | exact kd_pf hq | exact kd_ps hq | exact kd_po hq | exact kd_pr hq2 | exact kd_pk hq2 | exact kd_pf hq2 | exact kd_ps hq2 | exact kd_po hq2) (by first | decide | (unfold N0; omega)) (vp_in_nI (n := 0) (N := 16) (by omega) (by decide)) eX11_even_53 ?_
          refine g_ist4 rfl (Nat.le_of_ble_eq_true rfl) eX11_even_54 ?_
          refine g_ald0 eX11_even_56 ?_
          refine g_getR (ci := 10) (j := 13) (by first | rfl | exact kd_key hi | exact kd_sh hi | exact kd_ya hi | exact kd_pr hq | exact kd_pk hq | exact kd_pf hq | exact kd_ps hq | exact kd_po hq | exact kd_pr hq2 | exact kd_pk hq2 | exact kd_pf hq2 | exact kd_ps hq2 | exact kd_po hq2) (by first | decide | (unfold N0; omega)) (Nat.le_of_ble_eq_true rfl) (Nat.le_of_ble_eq_true rfl) rfl (by first | rfl | exact r_key4 hi | exact r_sh0 hi | exact r_p0 hq | exact r_p1 hq | exact r_p2 hq | exact r_p3 hq | exact r_p0 hq2 | exact r_p1 hq2 | exact r_p2 hq2 | exact r_p3 hq2) fl_X11_56 eX11_even_57 ?_
          refine g_iconst (v := 0) (by decide) eX11_even_60 ?_
          refine g_iald (by first | rfl | exact kd_key hi | exact kd_sh hi | exact kd_ya hi | exact kd_pr hq | exact kd_pk hq | exact kd_pf hq | exact kd_ps hq | exact kd_po hq | exact kd_pr hq2 | exact kd_pk hq2 | exact kd_pf hq2 | exact kd_ps hq2 | exact kd_po hq2) (by first | decide | (unfold N0; omega)) (vp_in_nI (n := 0) (N := 16) (by omega) (by decide)) eX11_even_61 ?_
          rw [show (sR st 28 f).1 28 (Int32.toNatClampNeg 0) = nI (cc 0) by rw [sR_at]; exact hf 0 (by decide)]
          refine g_ist5 rfl (Nat.le_of_ble_eq_true rfl) eX11_even_62 ?_
          refine g_iconst (v := 1) (by decide) eX11_even_64 ?_
          refine g_ist6 rfl (Nat.le_of_ble_eq_true rfl) eX11_even_65 ?_
          exact loop (w - 1) 0 (by omega)
        · simp only [fa_le, Int32.reduceToInt] at hb4
          exact bad (fun h => hb4 h.2.2.2)
end EVEN
