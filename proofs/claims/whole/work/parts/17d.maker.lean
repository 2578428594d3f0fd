/-! MAKER: tables, the stack (class) -/
def tnP (V : Nat → Nat) (cnt : Nat) (tbl : Int) (a : Nat) : Nat := if 0 ≤ tbl + 2 + 2 * (a : Int) ∧ tbl + 2 + 2 * (a : Int) < cnt then V (tbl + 2 + 2 * (a : Int)).toNat else 0
def csP (t : Nat) (V : Nat → Nat) (cnt : Nat) (tbl : Int) (j : Nat) : Nat → Int
  | 0 => 0
  | a + 1 => (csP t V cnt tbl j a - (tnP V cnt tbl a : Int) * ((a : Int) ^ (t - 1 - j) % (t : Int))) % (t : Int)
def coP (t : Nat) (V : Nat → Nat) (cnt : Nat) (tbl : Int) (j : Nat) : Int := if j = 0 then (tnP V cnt tbl 0 : Int) % (t : Int) else csP t V cnt tbl j t
def asL (t : Nat) (V : Nat → Nat) (cnt : Nat) (tbl x : Int) : Nat → List WK → Int → List WK × Int
  | 0, w, h => (w, h)
  | m + 1, w, h => asL t V cnt tbl x m (plP t (muP t w h x).1 (muP t w h x).2 (-1 - coP t V cnt tbl m % (t : Int))).1 (plP t (muP t w h x).1 (muP t w h x).2 (-1 - coP t V cnt tbl m % (t : Int))).2
def asP (t : Nat) (V : Nat → Nat) (cnt : Nat) (w : List WK) (tbl x : Int) : List WK × Int := asL t V cnt tbl x (t - 1) w (-1 - coP t V cnt tbl (t - 1) % (t : Int))
theorem opc {t : Nat} (ht : 2 ≤ t) (z : Int) : okc t (-1 - z % (t : Int)) := by
  have := em_rng z ht
  exact ⟨by omega, by omega⟩
theorem asL_ok {t : Nat} (ht : 2 ≤ t) {V : Nat → Nat} {cnt : Nat} {tbl x : Int} (hx : okc t x) : ∀ (m : Nat) (w : List WK) (h : Int), okc t h → w.length + 2 * m < 90000 → okc t (asL t V cnt tbl x m w h).2 ∧ (asL t V cnt tbl x m w h).1.length ≤ w.length + 2 * m
  | 0, w, h, hh, hl => ⟨hh, by show w.length ≤ _; omega⟩
  | m + 1, w, h, hh, hl => by
    rw [asL]
    have h1 := muP_ok ht (w := w) hh hx (by omega)
    have h2 := plP_ok ht (w := (muP t w h x).1) (b := -1 - coP t V cnt tbl m % (t : Int)) h1.1 (opc ht _) (by omega)
    have h3 := asL_ok ht (V := V) (cnt := cnt) (tbl := tbl) hx m (plP t (muP t w h x).1 (muP t w h x).2 (-1 - coP t V cnt tbl m % (t : Int))).1 (plP t (muP t w h x).1 (muP t w h x).2 (-1 - coP t V cnt tbl m % (t : Int))).2 h2.1 (by omega)
    exact ⟨h3.1, by omega⟩
section MAKD
variable {l : Launch} {D : va_G} {cy : Nat → ClassId} {t : Nat} {K P V : Nat → Nat} {cnt : Nat}
theorem m_chosen (st : St) {q : Nat} (hq : q < 4) {w : List WK} (hw : mrOK t q st w) (hl : w.length < 89990) (c a b : Int32) (hc : okc t c.toInt) (ha : okc t a.toInt) (hb : okc t b.toInt) : Mi l D cy 4 YX3_chosen [.ref 14, .int c, .int a, .int b, .ref (95 + 5 * q)] st (mkPost q st (chP t w c.toInt a.toInt b.toInt)) := by
  have h1 := miP_ok hw.2.1 (w := w) (b := b.toInt) ha (by omega)
  have h2 := muP_ok hw.2.1 (w := (miP t w a.toInt b.toInt).1) hc h1.1 (by omega)
  refine M.ofG [some (.ref 14), some (.int c), some (.int a), some (.int b), some (.ref (95 + 5 * q))] (by decide) (Nat.le_of_ble_eq_true rfl) rfl ?_
  intro xp xe xs xm xa xb xme xc xad xA
  refine g_ald0 eX3_chosen_0 ?_
  refine g_ald0 eX3_chosen_1 ?_
  refine g_ild1 eX3_chosen_2 ?_
  refine g_ald0 eX3_chosen_3 ?_
  refine g_ild2 eX3_chosen_4 ?_
  refine g_ild3 eX3_chosen_5 ?_
  refine g_ald4 eX3_chosen_6 ?_
  refine g_callVi (ci := 3) (m_taken st hq hw (by omega) a b ha hb) rfl (Nat.le_of_ble_eq_true rfl) (Nat.le_of_ble_eq_true rfl) rfl cv_X3_117 eX3_chosen_8 ⟨Nat.le_of_ble_eq_true rfl, Nat.le_of_ble_eq_true rfl⟩ rfl rfl (Nat.le_of_ble_eq_true rfl) (fun r1 u1 h => ?_)
  obtain ⟨f1, e1, w1⟩ := h
  refine g_ald4 eX3_chosen_11 ?_
  refine g_callVi (ci := 3) (m_multiplied u1 hq (mk_fr hw f1 w1) (by omega) c r1 hc (by rw [e1]; exact h1.1)) rfl (Nat.le_of_ble_eq_true rfl) (Nat.le_of_ble_eq_true rfl) rfl cv_X3_120 eX3_chosen_13 ⟨Nat.le_of_ble_eq_true rfl, Nat.le_of_ble_eq_true rfl⟩ rfl rfl (Nat.le_of_ble_eq_true rfl) (fun r2 u2 h => ?_)
  obtain ⟨f2, e2, w2⟩ := h
  rw [e1] at e2 w2
  refine g_ild3 eX3_chosen_16 ?_
  refine g_ald4 eX3_chosen_17 ?_
  refine g_callVi (ci := 3) (m_added u2 hq (mk_fr hw (f1.trans f2) w2) (by omega) r2 b (by rw [e2]; exact h2.1) hb) rfl (Nat.le_of_ble_eq_true rfl) (Nat.le_of_ble_eq_true rfl) rfl cv_X3_113 eX3_chosen_19 ⟨Nat.le_of_ble_eq_true rfl, Nat.le_of_ble_eq_true rfl⟩ rfl rfl (Nat.le_of_ble_eq_true rfl) (fun r3 u3 h => ?_)
  obtain ⟨f3, e3, w3⟩ := h
  rw [e2] at e3 w3
  exact g_iret rfl eX3_chosen_22 ⟨_, rfl, ⟨(f1.trans f2).trans f3, e3, w3⟩⟩
theorem m_joinedBy (st : St) {q : Nat} (hq : q < 4) {w : List WK} (hw : mrOK t q st w) (hl : w.length < 89990) (o : Nat) (ho : o < 256) (a b : Int32) (ha : okc t a.toInt) (hb : okc t b.toInt) : Mi l D cy 4 YX3_joinedBy [.ref 14, .int (nI o), .int a, .int b, .ref (95 + 5 * q)] st (mkPost q st (if o = 43 then plP t w a.toInt b.toInt else if o = 45 then miP t w a.toInt b.toInt else muP t w a.toInt b.toInt)) := by
  have hxt : (nI o).toInt = (o : Int) := nI_toInt (by omega)
  refine M.ofG [some (.ref 14), some (.int (nI o)), some (.int a), some (.int b), some (.ref (95 + 5 * q))] (by decide) (Nat.le_of_ble_eq_true rfl) rfl ?_
  intro xp xe xs xm xa xb xme xc xad xA
  refine g_ild1 eX3_joinedBy_0 ?_
  by_cases k1 : o = 43
  · have hq2 : (nI o).toInt = 43 := by rw [hxt, k1]; rfl
    rw [if_pos k1]
    refine g_lookup (off := 27) (tgt := 28) eX3_joinedBy_1 (by decide) (by rw [hq2]; rfl) (by decide) ?_
    refine g_ald0 eX3_joinedBy_28 ?_
    refine g_ild2 eX3_joinedBy_29 ?_
    refine g_ild3 eX3_joinedBy_30 ?_
    refine g_ald4 eX3_joinedBy_31 ?_
    refine g_callVi (ci := 3) (m_added st hq hw (by omega) a b ha hb) rfl (Nat.le_of_ble_eq_true rfl) (Nat.le_of_ble_eq_true rfl) rfl cv_X3_113 eX3_joinedBy_33 ⟨Nat.le_of_ble_eq_true rfl, Nat.le_of_ble_eq_true rfl⟩ rfl rfl (Nat.le_of_ble_eq_true rfl) (fun r u h => ?_)
    exact g_iret rfl eX3_joinedBy_36 ⟨_, rfl, h⟩
  by_cases k2 : o = 45
  · have hq2 : (nI o).toInt = 45 := by rw [hxt, k2]; rfl
    rw [if_neg k1, if_pos k2]
    refine g_lookup (off := 36) (tgt := 37) eX3_joinedBy_1 (by decide) (by rw [hq2]; rfl) (by decide) ?_
    refine g_ald0 eX3_joinedBy_37 ?_
    refine g_ild2 eX3_joinedBy_38 ?_
    refine g_ild3 eX3_joinedBy_39 ?_
    refine g_ald4 eX3_joinedBy_40 ?_
    refine g_callVi (ci := 3) (m_taken st hq hw (by omega) a b ha hb) rfl (Nat.le_of_ble_eq_true rfl) (Nat.le_of_ble_eq_true rfl) rfl cv_X3_117 eX3_joinedBy_42 ⟨Nat.le_of_ble_eq_true rfl, Nat.le_of_ble_eq_true rfl⟩ rfl rfl (Nat.le_of_ble_eq_true rfl) (fun r u h => ?_)
    exact g_iret rfl eX3_joinedBy_45 ⟨_, rfl, h⟩
  · rw [if_neg k1, if_neg k2]
    refine g_lookup (off := 45) (tgt := 46) eX3_joinedBy_1 (by decide) (by simp only [Op.lookupswitch.offset_cons]; rw [if_neg (by omega), if_neg (by omega)]; rfl) (by decide) ?_
    refine g_ald0 eX3_joinedBy_46 ?_
    refine g_ild2 eX3_joinedBy_47 ?_
    refine g_ild3 eX3_joinedBy_48 ?_
    refine g_ald4 eX3_joinedBy_49 ?_
    refine g_callVi (ci := 3) (m_multiplied st hq hw (by omega) a b ha hb) rfl (Nat.le_of_ble_eq_true rfl) (Nat.le_of_ble_eq_true rfl) rfl cv_X3_120 eX3_joinedBy_51 ⟨Nat.le_of_ble_eq_true rfl, Nat.le_of_ble_eq_true rfl⟩ rfl rfl (Nat.le_of_ble_eq_true rfl) (fun r u h => ?_)
    exact g_iret rfl eX3_joinedBy_54 ⟨_, rfl, h⟩
theorem m_tableNumber (st : St) (hv : nvOK K P V cnt st) (tbl : Int32) (htb : okc 13 tbl.toInt) (a : Nat) (ha : a < 20) : Ml l D cy 0 YX3_tableNumber [.ref 4, .int tbl, .int (nI a)] st (fun r u => u = st ∧ r = lN (tnP V cnt tbl.toInt a)) := by
  obtain ⟨h1, h2, h3⟩ := hv
  have e2 : (2 : Int32).toInt = 2 := rfl
  have ea : (nI a).toInt = a := nI_toInt (by omega)
  have em : ((2 : Int32) * nI a).toInt = 2 * (a : Int) := by rw [fb_mulI (by rw [e2, ea]; omega) (by rw [e2, ea]; omega), e2, ea]
  have e3 : (tbl + 2).toInt = tbl.toInt + 2 := by rw [fb_addI (by rw [e2]; omega) (by rw [e2]; omega), e2]
  have es : (tbl + 2 + 2 * nI a).toInt = tbl.toInt + 2 + 2 * (a : Int) := by rw [fb_addI (by rw [e3, em]; omega) (by rw [e3, em]; omega), e3, em]
  generalize hT : tbl.toInt + 2 + 2 * (a : Int) = T at es
  refine M.ofG [some (.ref 4), some (.int tbl), some (.int (nI a)), none] (by decide) (Nat.le_of_ble_eq_true rfl) rfl ?_
  intro xp xe xs xm xa xb xme xc xad xA
  unfold tnP
  rw [hT]
  refine g_ild1 eX3_tableNumber_0 ?_
  refine g_iconst (v := 2) (by decide) eX3_tableNumber_1 ?_
  refine g_iadd eX3_tableNumber_2 ?_
  refine g_iconst (v := 2) (by decide) eX3_tableNumber_3 ?_
  refine g_ild2 eX3_tableNumber_4 ?_
  refine g_imul eX3_tableNumber_5 ?_
  refine g_iadd eX3_tableNumber_6 ?_
  generalize tbl + 2 + 2 * nI a = x at es
  refine g_ist3 rfl (Nat.le_of_ble_eq_true rfl) eX3_tableNumber_7 ?_
  refine g_ild3 eX3_tableNumber_8 ?_
  refine g_if_lt eX3_tableNumber_9 (fun hb => ?_) (fun hb => ?_)
  · rw [fa_lt, z32, es] at hb
    rw [if_neg (by omega)]
    refine g_lconst (v := 0) rfl eX3_tableNumber_29 ?_
    exact g_lret rfl eX3_tableNumber_30 ⟨_, rfl, ⟨rfl, rfl⟩⟩
  · rw [fa_lt, z32, es] at hb
    refine g_ild3 eX3_tableNumber_12 ?_
    refine g_ald0 eX3_tableNumber_13 ?_
    refine g_getI (ci := 9) (j := 3) rfl (Nat.le_of_ble_eq_true rfl) (Nat.le_of_ble_eq_true rfl) (Nat.le_of_ble_eq_true rfl) rfl fl_X3_151 eX3_tableNumber_14 ?_
    rw [h1]
    refine g_icmp_ge eX3_tableNumber_17 (fun hb2 => ?_) (fun hb2 => ?_)
    · rw [fa_le, nI_toInt (by omega), es] at hb2
      rw [if_neg (by omega)]
      refine g_lconst (v := 0) rfl eX3_tableNumber_29 ?_
      exact g_lret rfl eX3_tableNumber_30 ⟨_, rfl, ⟨rfl, rfl⟩⟩
    · rw [fa_le, nI_toInt (by omega), es] at hb2
      rw [if_pos (by omega)]
      refine g_ald0 eX3_tableNumber_20 ?_
      refine g_getR (ci := 9) (j := 2) rfl (Nat.le_of_ble_eq_true rfl) (Nat.le_of_ble_eq_true rfl) (Nat.le_of_ble_eq_true rfl) rfl rfl fl_X3_53 eX3_tableNumber_21 ?_
      refine g_ild3 eX3_tableNumber_24 ?_
      refine g_lald rfl (Nat.le_of_ble_eq_true rfl) (vin (by omega) (by show _ < ((302 : Nat) : Int); omega)) eX3_tableNumber_25 ?_
      rw [clamp_to, es, (h3 T.toNat (by omega)).2.2.1]
      refine g_goto eX3_tableNumber_26 ?_
      exact g_lret rfl eX3_tableNumber_30 ⟨_, rfl, ⟨rfl, rfl⟩⟩
theorem tnP_lt {st : St} (hv : nvOK K P V cnt st) (tbl : Int) (a : Nat) : tnP V cnt tbl a < 1099511627776 := by
  unfold tnP
  split
  · exact (hv.2.2 _ (by omega)).2.2.2.2
  · omega
theorem csP_rng (ht : 2 ≤ t) (tbl : Int) (j a : Nat) : 0 ≤ csP t V cnt tbl j a ∧ csP t V cnt tbl j a < t := by
  cases a with
  | zero => exact ⟨Int.le_refl _, by show (0 : Int) < t; omega⟩
  | succ a => exact em_rng _ ht
theorem m_coefficient (st : St) (hv : nvOK K P V cnt st) (ht : st.1 14 0 = nI t) (h2 : 2 ≤ t) (h13 : t ≤ 13) (tbl : Int32) (htb : okc 13 tbl.toInt) (j : Nat) (hj : j < t) : Mi l D cy 2 YX3_coefficient [.ref 14, .ref 4, .int tbl, .int (nI j)] st (fun r u => u = st ∧ r.toInt = coP t V cnt tbl.toInt j) := by
  have hti : (st.1 14 0).toInt = t := by rw [ht, nI_toInt (by omega)]
  refine M.ofG [some (.ref 14), some (.ref 4), some (.int tbl), some (.int (nI j)), none, none, none] (by decide) (Nat.le_of_ble_eq_true rfl) rfl ?_
  intro xp xe xs xm xa xb xme xc xad xA
  refine g_ild3 eX3_coefficient_0 ?_
  refine g_if_ne eX3_coefficient_1 (fun hb => ?_) (fun hb => ?_)
  · have e : ¬ j = 0 := fun z => hb (by rw [z]; rfl)
    have hco : coP t V cnt tbl.toInt j = csP t V cnt tbl.toInt j t := by unfold coP; rw [if_neg e]
    have loop : ∀ (f a : Nat) (s : Int32) (y6 : Option Value), a + f = t → s.toInt = csP t V cnt tbl.toInt j a → G xp l xe (rmd (2)) xs xm xa xb xme xc D cy xad xA (YX3_coefficient.2.1, YX3_coefficient.1.cls, YX3_coefficient.2.2.1, YX3_coefficient.2.2.2) (Pi (fun (r : Int32) (u : St) => u = st ∧ r.toInt = coP t V cnt tbl.toInt j)) 24 ([some (.ref 14), some (.ref 4), some (.int tbl), some (.int (nI j)), some (.int s), some (.int (nI a)), y6]) ([]) (st) := by
      intro f
      induction f with
      | zero =>
        intro a s y6 ha hs
        refine g_ild5 eX3_coefficient_24 ?_
        refine g_ald0 eX3_coefficient_26 ?_
        refine g_getI (ci := 3) (j := 0) rfl (Nat.le_of_ble_eq_true rfl) (Nat.le_of_ble_eq_true rfl) (Nat.le_of_ble_eq_true rfl) rfl fl_X3_24 eX3_coefficient_27 ?_
        rw [ht]
        refine g_icmp_ge eX3_coefficient_30 (fun hb2 => ?_) (fun hb2 => ?_)
        · refine g_ild4 eX3_coefficient_82 ?_
          exact g_iret rfl eX3_coefficient_84 ⟨_, rfl, ⟨rfl, by rw [hs, hco, show a = t by omega]⟩⟩
        · exact absurd (nI_le (by omega) (by omega)) hb2
      | succ f ih =>
        intro a s y6 ha hs
        refine g_ild5 eX3_coefficient_24 ?_
        refine g_ald0 eX3_coefficient_26 ?_
        refine g_getI (ci := 3) (j := 0) rfl (Nat.le_of_ble_eq_true rfl) (Nat.le_of_ble_eq_true rfl) (Nat.le_of_ble_eq_true rfl) rfl fl_X3_24 eX3_coefficient_27 ?_
        rw [ht]
        refine g_icmp_ge eX3_coefficient_30 (fun hb2 => ?_) (fun hb2 => ?_)
        · exact absurd hb2 (nI_ge (by omega) (by omega))
        · refine g_ild5 eX3_coefficient_33 ?_
          refine g_ald0 eX3_coefficient_35 ?_
          refine g_getI (ci := 3) (j := 0) rfl (Nat.le_of_ble_eq_true rfl) (Nat.le_of_ble_eq_true rfl) (Nat.le_of_ble_eq_true rfl) rfl fl_X3_24 eX3_coefficient_36 ?_
          rw [ht]
          refine g_iconst (v := 1) (by decide) eX3_coefficient_39 ?_
          refine g_isub eX3_coefficient_40 ?_
          rw [show nI t - 1 = nI (t - 1) from nI_sub (a := t) (b := 1) (by omega)]
          refine g_ild3 eX3_coefficient_41 ?_
          refine g_isub eX3_coefficient_42 ?_
          rw [nI_sub (by omega)]
          refine g_ald0 eX3_coefficient_43 ?_
          refine g_getI (ci := 3) (j := 0) rfl (Nat.le_of_ble_eq_true rfl) (Nat.le_of_ble_eq_true rfl) (Nat.le_of_ble_eq_true rfl) rfl fl_X3_24 eX3_coefficient_44 ?_
          rw [ht]
          have tk : (nI (t - 1 - j)).toInt = ((t - 1 - j : Nat) : Int) := nI_toInt (by omega)
          have tt : (nI t).toInt = (t : Int) := nI_toInt (by omega)
          have ta : (nI a).toInt = (a : Int) := nI_toInt (by omega)
          refine g_callSi (m_power st (nI a) (nI (t - 1 - j)) (nI t) (by omega) (by omega)) cs_X3_148 eX3_coefficient_47 ⟨Nat.le_of_ble_eq_true rfl, Nat.le_of_ble_eq_true rfl⟩ rfl rfl (Nat.le_of_ble_eq_true rfl) (fun pw st hp => ?_)
          obtain ⟨rfl, hp⟩ := hp
          rw [tk, tt, ta, Int.toNat_natCast] at hp
          have hpr := em_rng ((a : Int) ^ (t - 1 - j)) h2
          refine g_ist6 rfl (Nat.le_of_ble_eq_true rfl) eX3_coefficient_50 ?_
          refine g_ild4 eX3_coefficient_52 ?_
          refine g_i2l eX3_coefficient_54 ?_
          refine g_ald1 eX3_coefficient_55 ?_
          refine g_ild2 eX3_coefficient_56 ?_
          refine g_ild5 eX3_coefficient_57 ?_
          refine g_callSl (m_tableNumber st hv tbl htb a (by omega)) cs_X3_144 eX3_coefficient_59 ⟨Nat.le_of_ble_eq_true rfl, Nat.le_of_ble_eq_true rfl⟩ rfl rfl (Nat.le_of_ble_eq_true rfl) (fun tn st h => ?_)
          obtain ⟨rfl, rfl⟩ := h
          have htl := tnP_lt hv tbl.toInt a
          have hcs := csP_rng (V := V) (cnt := cnt) h2 tbl.toInt j a
          have hm1 : 0 ≤ (tnP V cnt tbl.toInt a : Int) * pw.toInt := Int.mul_nonneg (by omega) (by omega)
          have hm2 : (tnP V cnt tbl.toInt a : Int) * pw.toInt ≤ 1099511627776 * 13 := Int.mul_le_mul (by omega) (by omega) (by omega) (by decide)
          have tL : (lN (tnP V cnt tbl.toInt a)).toInt = (tnP V cnt tbl.toInt a : Int) := pk_lT (by omega)
          have eM : (lN (tnP V cnt tbl.toInt a) * pw.toInt64).toInt = (tnP V cnt tbl.toInt a : Int) * pw.toInt := by rw [fb_mulL (by rw [tL, tl]; omega) (by rw [tL, tl]; omega), tL, tl]
          have eS : (s.toInt64 - lN (tnP V cnt tbl.toInt a) * pw.toInt64).toInt = s.toInt - (tnP V cnt tbl.toInt a : Int) * pw.toInt := by rw [fb_subL (by rw [eM, tl]; omega) (by rw [eM, tl]; omega), eM, tl]
          refine g_ild6 eX3_coefficient_62 ?_
          refine g_i2l eX3_coefficient_64 ?_
          refine g_lmul eX3_coefficient_65 ?_
          refine g_lsub eX3_coefficient_66 ?_
          refine g_ald0 eX3_coefficient_67 ?_
          refine g_getI (ci := 3) (j := 0) rfl (Nat.le_of_ble_eq_true rfl) (Nat.le_of_ble_eq_true rfl) (Nat.le_of_ble_eq_true rfl) rfl fl_X3_24 eX3_coefficient_68 ?_
          refine g_callSi (m_rest st _ _ (by omega)) cs_X3_107 eX3_coefficient_71 ⟨Nat.le_of_ble_eq_true rfl, Nat.le_of_ble_eq_true rfl⟩ rfl rfl (Nat.le_of_ble_eq_true rfl) (fun s2 st h => ?_)
          obtain ⟨rfl, h⟩ := h
          refine g_ist4 rfl (Nat.le_of_ble_eq_true rfl) eX3_coefficient_74 ?_
          refine g_inc5 rfl (Nat.le_of_ble_eq_true rfl) rfl eX3_coefficient_76 ?_
          refine g_goto eX3_coefficient_79 ?_
          rw [inc1]
          refine ih (a + 1) s2 _ (by omega) ?_
          rw [h, eS, hti, hs, hp]
          rfl
    refine g_iconst (v := 0) (by decide) eX3_coefficient_18 ?_
    refine g_ist4 rfl (Nat.le_of_ble_eq_true rfl) eX3_coefficient_19 ?_
    refine g_iconst (v := 0) (by decide) eX3_coefficient_21 ?_
    refine g_ist5 rfl (Nat.le_of_ble_eq_true rfl) eX3_coefficient_22 ?_
    exact loop t 0 0 none (by omega) rfl
  · have e : j = 0 := (nI_eq (b := 0) (by omega) (by omega)).mp hb
    refine g_ald1 eX3_coefficient_4 ?_
    refine g_ild2 eX3_coefficient_5 ?_
    refine g_iconst (v := 0) (by decide) eX3_coefficient_6 ?_
    refine g_callSl (m_tableNumber st hv tbl htb 0 (by omega)) cs_X3_144 eX3_coefficient_7 ⟨Nat.le_of_ble_eq_true rfl, Nat.le_of_ble_eq_true rfl⟩ rfl rfl (Nat.le_of_ble_eq_true rfl) (fun tn st h => ?_)
    obtain ⟨rfl, rfl⟩ := h
    have htl := tnP_lt hv tbl.toInt 0
    refine g_ald0 eX3_coefficient_10 ?_
    refine g_getI (ci := 3) (j := 0) rfl (Nat.le_of_ble_eq_true rfl) (Nat.le_of_ble_eq_true rfl) (Nat.le_of_ble_eq_true rfl) rfl fl_X3_24 eX3_coefficient_11 ?_
    refine g_callSi (m_rest st _ _ (by omega)) cs_X3_107 eX3_coefficient_14 ⟨Nat.le_of_ble_eq_true rfl, Nat.le_of_ble_eq_true rfl⟩ rfl rfl (Nat.le_of_ble_eq_true rfl) (fun r st h => ?_)
    obtain ⟨rfl, h⟩ := h
    refine g_iret rfl eX3_coefficient_17 ⟨_, rfl, ?_⟩
    try dsimp only
    refine ⟨rfl, ?_⟩
    unfold coP
    rw [h, if_pos e, hti, pk_lT (by omega)]
theorem nv_pfr {q : Nat} {st u : St} (hv : nvOK K P V cnt st) (hf : pFr q st u) : nvOK K P V cnt u := by
  unfold nvOK
  rw [hf.1 4 (by omega) (by omega) (by omega) (by omega), hf.1 5 (by omega) (by omega) (by omega) (by omega), hf.1 6 (by omega) (by omega) (by omega) (by omega), hf.2.1]
  exact hv
theorem m_asked (st : St) {q : Nat} (hq : q < 4) (hv : nvOK K P V cnt st) {w : List WK} (hw : mrOK t q st w) (hl : w.length < 89900) (tbl x : Int32) (htb : okc 13 tbl.toInt) (hx : okc t x.toInt) : Mi l D cy 4 YX3_asked [.ref 14, .ref 4, .int tbl, .int x, .ref (95 + 5 * q)] st (mkPost q st (asP t V cnt w tbl.toInt x.toInt)) := by
  have h2 := hw.2.1
  have h13 := hw.2.2.1
  generalize hR : asP t V cnt w tbl.toInt x.toInt = R
  refine M.ofG [some (.ref 14), some (.ref 4), some (.int tbl), some (.int x), some (.ref (95 + 5 * q)), none, none, none] (by decide) (Nat.le_of_ble_eq_true rfl) rfl ?_
  intro xp xe xs xm xa xb xme xc xad xA
  have loop : ∀ (m : Nat) (u : St) (w1 : List WK) (h : Int32) (y7 : Option Value), m < t → pFr q st u → pgW u q w1 → okc t h.toInt → w1.length + 2 * m < 89990 → R = asL t V cnt tbl.toInt x.toInt m w1 h.toInt → G xp l xe (rmd (4)) xs xm xa xb xme xc D cy xad xA (YX3_asked.2.1, YX3_asked.1.cls, YX3_asked.2.2.1, YX3_asked.2.2.2) (Pi (mkPost q st R)) 27 ([some (.ref 14), some (.ref 4), some (.int tbl), some (.int x), some (.ref (95 + 5 * q)), some (.int h), some (.int (nI m - 1)), y7]) ([]) (u) := by
    intro m
    induction m with
    | zero =>
      intro u w1 h y7 hm hf hw1 hh hl1 hR
      refine g_ild6 eX3_asked_27 ?_
      refine g_if_lt eX3_asked_29 (fun hb => ?_) (fun hb => ?_)
      · refine g_ild5 eX3_asked_72 ?_
        refine g_iret rfl eX3_asked_74 ⟨_, rfl, ?_⟩
        try dsimp only
        rw [hR]
        exact ⟨hf, rfl, hw1⟩
      · exact absurd (show (nI 0 - 1 : Int32) < 0 by decide) hb
    | succ m ih =>
      intro u w1 h y7 hm hf hw1 hh hl1 hR
      have e1 : nI (m + 1) - 1 = nI m := nI_pred m
      have hwu := mk_fr hw hf hw1
      rw [e1]
      refine g_ild6 eX3_asked_27 ?_
      refine g_if_lt eX3_asked_29 (fun hb => ?_) (fun hb => ?_)
      · exact absurd hb (nI_pos (by omega))
      · refine g_ald0 eX3_asked_32 ?_
        refine g_ald0 eX3_asked_33 ?_
        refine g_ald1 eX3_asked_34 ?_
        refine g_ild2 eX3_asked_35 ?_
        refine g_ild6 eX3_asked_36 ?_
        refine g_callVi (ci := 3) (m_coefficient u (nv_pfr hv hf) hwu.1 h2 h13 tbl htb m (by omega)) rfl (Nat.le_of_ble_eq_true rfl) (Nat.le_of_ble_eq_true rfl) rfl cv_X3_140 eX3_asked_38 ⟨Nat.le_of_ble_eq_true rfl, Nat.le_of_ble_eq_true rfl⟩ rfl rfl (Nat.le_of_ble_eq_true rfl) (fun co u hc => ?_)
        obtain ⟨rfl, hc⟩ := hc
        refine g_i2l eX3_asked_41 ?_
        refine g_callVi (ci := 3) (m_openOf u hwu.1 h2 h13 _) rfl (Nat.le_of_ble_eq_true rfl) (Nat.le_of_ble_eq_true rfl) rfl cv_X3_86 eX3_asked_42 ⟨Nat.le_of_ble_eq_true rfl, Nat.le_of_ble_eq_true rfl⟩ rfl rfl (Nat.le_of_ble_eq_true rfl) (fun c u h9 => ?_)
        obtain ⟨rfl, h9⟩ := h9
        rw [tl, hc] at h9
        refine g_ist7 rfl (Nat.le_of_ble_eq_true rfl) eX3_asked_45 ?_
        refine g_ald0 eX3_asked_47 ?_
        refine g_ald0 eX3_asked_48 ?_
        refine g_ild5 eX3_asked_49 ?_
        refine g_ild3 eX3_asked_51 ?_
        refine g_ald4 eX3_asked_52 ?_
        have k1 := muP_ok h2 (w := w1) hh hx (by omega)
        refine g_callVi (ci := 3) (m_multiplied u hq hwu (by omega) h x hh hx) rfl (Nat.le_of_ble_eq_true rfl) (Nat.le_of_ble_eq_true rfl) rfl cv_X3_120 eX3_asked_54 ⟨Nat.le_of_ble_eq_true rfl, Nat.le_of_ble_eq_true rfl⟩ rfl rfl (Nat.le_of_ble_eq_true rfl) (fun r1 u1 g => ?_)
        obtain ⟨f1, e2, w2⟩ := g
        refine g_ild7 eX3_asked_57 ?_
        refine g_ald4 eX3_asked_59 ?_
        have k3 := opc h2 (coP t V cnt tbl.toInt m)
        have k2 := plP_ok h2 (w := (muP t w1 h.toInt x.toInt).1) (b := -1 - coP t V cnt tbl.toInt m % (t : Int)) k1.1 k3 (by omega)
        refine g_callVi (ci := 3) (m_added u1 hq (mk_fr hwu f1 w2) (by omega) r1 c (by rw [e2]; exact k1.1) (by rw [h9]; exact k3)) rfl (Nat.le_of_ble_eq_true rfl) (Nat.le_of_ble_eq_true rfl) rfl cv_X3_113 eX3_asked_61 ⟨Nat.le_of_ble_eq_true rfl, Nat.le_of_ble_eq_true rfl⟩ rfl rfl (Nat.le_of_ble_eq_true rfl) (fun r2 u2 g => ?_)
        obtain ⟨f2, e4, w3⟩ := g
        rw [e2, h9] at e4 w3
        refine g_ist5 rfl (Nat.le_of_ble_eq_true rfl) eX3_asked_64 ?_
        refine g_inc6 rfl (Nat.le_of_ble_eq_true rfl) rfl eX3_asked_66 ?_
        refine g_goto eX3_asked_69 ?_
        rw [show nI m + Int32.ofInt (-1) = nI m - 1 by rw [Int32.sub_eq_add_neg]; rfl]
        refine ih u2 _ r2 _ (by omega) ((hf.trans f1).trans f2) w3 (by rw [e4]; exact k2.1) (by omega) ?_
        rw [hR, e4, asL]
  refine g_ald0 eX3_asked_0 ?_
  refine g_ald0 eX3_asked_1 ?_
  refine g_ald1 eX3_asked_2 ?_
  refine g_ild2 eX3_asked_3 ?_
  refine g_ald0 eX3_asked_4 ?_
  refine g_getI (ci := 3) (j := 0) rfl (Nat.le_of_ble_eq_true rfl) (Nat.le_of_ble_eq_true rfl) (Nat.le_of_ble_eq_true rfl) rfl fl_X3_24 eX3_asked_5 ?_
  rw [hw.1]
  refine g_iconst (v := 1) (by decide) eX3_asked_8 ?_
  refine g_isub eX3_asked_9 ?_
  rw [show nI t - 1 = nI (t - 1) from nI_sub (a := t) (b := 1) (by omega)]
  refine g_callVi (ci := 3) (m_coefficient st hv hw.1 h2 h13 tbl htb (t - 1) (by omega)) rfl (Nat.le_of_ble_eq_true rfl) (Nat.le_of_ble_eq_true rfl) rfl cv_X3_140 eX3_asked_10 ⟨Nat.le_of_ble_eq_true rfl, Nat.le_of_ble_eq_true rfl⟩ rfl rfl (Nat.le_of_ble_eq_true rfl) (fun co st hc => ?_)
  obtain ⟨rfl, hc⟩ := hc
  refine g_i2l eX3_asked_13 ?_
  refine g_callVi (ci := 3) (m_openOf st hw.1 h2 h13 _) rfl (Nat.le_of_ble_eq_true rfl) (Nat.le_of_ble_eq_true rfl) rfl cv_X3_86 eX3_asked_14 ⟨Nat.le_of_ble_eq_true rfl, Nat.le_of_ble_eq_true rfl⟩ rfl rfl (Nat.le_of_ble_eq_true rfl) (fun c st h9 => ?_)
  obtain ⟨rfl, h9⟩ := h9
  rw [tl, hc] at h9
  refine g_ist5 rfl (Nat.le_of_ble_eq_true rfl) eX3_asked_17 ?_
  refine g_ald0 eX3_asked_19 ?_
  refine g_getI (ci := 3) (j := 0) rfl (Nat.le_of_ble_eq_true rfl) (Nat.le_of_ble_eq_true rfl) (Nat.le_of_ble_eq_true rfl) rfl fl_X3_24 eX3_asked_20 ?_
  rw [hw.1]
  refine g_iconst (v := 2) (by decide) eX3_asked_23 ?_
  refine g_isub eX3_asked_24 ?_
  refine g_ist6 rfl (Nat.le_of_ble_eq_true rfl) eX3_asked_25 ?_
  rw [show nI t - 2 = nI (t - 1) - 1 by rw [show nI (t - 1) - 1 = nI (t - 1 - 1) from nI_sub (a := t - 1) (b := 1) (by omega), show nI t - 2 = nI (t - 2) from nI_sub h2]; congr 1]
  exact loop (t - 1) st w c none (by omega) (pFr.refl _ _) hw.2.2.2 (by rw [h9]; exact opc h2 _) (by omega) (by rw [← hR, h9]; rfl)
end MAKD
