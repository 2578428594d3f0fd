/-! SealedSums: programs -/
section GPR
variable {p : Program} {l : Launch} {e : Env} {R : Room} {s : State} {m : MethodId} {args : Array Value} {below : List Frame} {meth : Method} {c : Code} {D : va_G} {cy : Nat → ClassId} {ad : Nat → Nat} {A : Nat → Prop} {I : MI} {post : Option Value → St → Prop} {pc n : Nat} {L : List (Option Value)} {S : List Value} {st : St}
theorem g_prices {x : Nat} (hw : Cond.fieldLink I.2.1 x RX7 "PRICES" "[I" ∈ wsA) (hd : DD I.1 pc (.getstatic x) 3 n) (k : G p l e R s m args below meth c D cy ad A I post n L (.ref 115 :: S) st) : G p l e R s m args below meth c D cy ad A I post pc L S st := by
  obtain ⟨h1, h2⟩ := hd
  subst h2
  exact fun h H locs ls hl hP hD hS => va_gets h.1 h.2.1 h.2.2.2.2.2.2.2.2.2.1 hS h.2.2.2.2.2.1 (h.2.2.2.2.2.2.1 _ hw) (fun _ q => q) h1 (k h H locs ls hl hP hD hS)
theorem g_prld {i : Int32} (hin : vp_in i 6) (hd : DD I.1 pc .iaload 1 n) (k : G p l e R s m args below meth c D cy ad A I post n L (.int (prc i.toNatClampNeg) :: S) st) : G p l e R s m args below meth c D cy ad A I post pc L (.int i :: .ref 115 :: S) st := by
  obtain ⟨h1, h2⟩ := hd
  subst h2
  exact fun h H locs ls hl hP hD hS => va_ti h.1 h.2.1 h.2.2.2.2.2.2.2.2.2.2.1 hS hin rfl h1 (k h H locs ls hl hP hD hS)
end GPR
section CLSD
variable {l : Launch} {D : va_G} {cy : Nat → ClassId}
theorem wsA_PR : Cond.fieldLink RX7 59 RX7 "PRICES" "[I" ∈ wsA := wsA_4 196 rfl rfl
/-- what a work costs -/
def prF (k : Int) : Int := if k = 3 then 10 else if k = 5 then 2 else 1
theorem prc_F {x : Int32} (h : 1 ≤ x.toInt ∧ x.toInt ≤ 5) : (prc x.toNatClampNeg).toInt = prF x.toInt := by
  obtain ⟨k, hk, rfl⟩ := as_nI (x := x) (n := 6) (by omega)
  rw [nI_toInt (by omega)] at h ⊢
  rw [nI_clamp (by omega)]
  have h9 : k = 1 ∨ k = 2 ∨ k = 3 ∨ k = 4 ∨ k = 5 := by omega
  rcases h9 with rfl | rfl | rfl | rfl | rfl <;> rfl
theorem prF_rng (k : Int) : 1 ≤ prF k ∧ prF k ≤ 10 := by
  unfold prF
  split
  · decide
  · split <;> decide
/-- the works' prices, and 25 for each made anew -/
def costF (K : Nat → Int) (W : Nat) (lay : Nat) : Int := 25 * (popN lay : Int) + fb_si (fun w => prF (K w)) W
theorem si_rng (K : Nat → Int) : ∀ n : Nat, 0 ≤ fb_si (fun w => prF (K w)) n ∧ fb_si (fun w => prF (K w)) n ≤ 10 * (n : Int)
  | 0 => ⟨Int.le_refl 0, Int.le_refl 0⟩
  | n + 1 => by
    have h1 := si_rng K n
    have h2 := prF_rng (K n)
    rw [fb_si_succ]
    omega
set_option maxHeartbeats 4000000 in
theorem m_priceOf (st : St) {q : Nat} (hq : q < 4) {t : Int} (hp : pgOK t st q) (x : Nat) (hx : x < 4096) : Mi l D cy 1 YX7_priceOf [.ref (95 + 5 * q), .int (nI x)] st (fun r u => u = st ∧ r.toInt = costF (gK st q) ((st.1 (95 + 5 * q) 5).toInt).toNat x) := by
  have hw := hp.1
  have hw2 := hp.2.1
  have hpop := pop_le x
  refine M.ofG [some (.ref (95 + 5 * q)), some (.int (nI x)), none, none] (by decide) (Nat.le_of_ble_eq_true rfl) rfl ?_
  intro xp xe xs xm xa xb xme xc xad xA
  have loop : ∀ (f k : Nat) (a : Int32), k + f = ((st.1 (95 + 5 * q) 5).toInt).toNat → a.toInt = costF (gK st q) k x → G xp l xe (rmd (1)) xs xm xa xb xme xc D cy xad xA (YX7_priceOf.2.1, YX7_priceOf.1.cls, YX7_priceOf.2.2.1, YX7_priceOf.2.2.2) (Pi (fun (r : Int32) (u : St) => u = st ∧ r.toInt = costF (gK st q) ((st.1 (95 + 5 * q) 5).toInt).toNat x)) 10 ([some (.ref (95 + 5 * q)), some (.int (nI x)), some (.int a), some (.int (nI k))]) ([]) (st) := by
    intro f
    induction f with
    | zero =>
      intro k a hk ha
      refine g_ild3 eX7_priceOf_10 ?_
      refine g_ald0 eX7_priceOf_11 ?_
      refine g_getI (ci := 6) (j := 5) (by first | rfl | exact kd_key hi | exact kd_sh hi | exact kd_ya hi | exact kd_pr hq | exact kd_pk hq | exact kd_pf hq | exact kd_ps hq | exact kd_po hq | exact kd_pr hq2 | exact kd_pk hq2 | exact kd_pf hq2 | exact kd_ps hq2 | exact kd_po hq2) (by first | decide | (unfold N0; omega)) (Nat.le_of_ble_eq_true rfl) (Nat.le_of_ble_eq_true rfl) rfl fl_X7_28 eX7_priceOf_12 ?_
      refine g_icmp_ge eX7_priceOf_15 (fun hb => ?_) (fun hb => ?_)
      · refine g_ild2 eX7_priceOf_37 ?_
        refine g_iret rfl eX7_priceOf_38 ⟨_, rfl, ?_⟩
        try dsimp only
        rw [show ((st.1 (95 + 5 * q) 5).toInt).toNat = k by omega]
        exact ⟨rfl, ha⟩
      · rw [fa_le, nI_toInt (by omega)] at hb
        exfalso
        omega
    | succ f ih =>
      intro k a hk ha
      obtain ⟨w1, w2, -⟩ := hp.2.2.2.2.2.2.1 k (by omega)
      have hs := si_rng (gK st q) k
      refine g_ild3 eX7_priceOf_10 ?_
      refine g_ald0 eX7_priceOf_11 ?_
      refine g_getI (ci := 6) (j := 5) (by first | rfl | exact kd_key hi | exact kd_sh hi | exact kd_ya hi | exact kd_pr hq | exact kd_pk hq | exact kd_pf hq | exact kd_ps hq | exact kd_po hq | exact kd_pr hq2 | exact kd_pk hq2 | exact kd_pf hq2 | exact kd_ps hq2 | exact kd_po hq2) (by first | decide | (unfold N0; omega)) (Nat.le_of_ble_eq_true rfl) (Nat.le_of_ble_eq_true rfl) rfl fl_X7_28 eX7_priceOf_12 ?_
      refine g_icmp_ge eX7_priceOf_15 (fun hb => ?_) (fun hb => ?_)
      · rw [fa_le, nI_toInt (by omega)] at hb
        exfalso
        omega
      · refine g_ild2 eX7_priceOf_18 ?_
        refine g_prices (wsA_PR) eX7_priceOf_19 ?_
        refine g_ald0 eX7_priceOf_22 ?_
        refine g_getR (ci := 6) (j := 0) (by first | rfl | exact kd_key hi | exact kd_sh hi | exact kd_ya hi | exact kd_pr hq | exact kd_pk hq | exact kd_pf hq | exact kd_ps hq | exact kd_po hq | exact kd_pr hq2 | exact kd_pk hq2 | exact kd_pf hq2 | exact kd_ps hq2 | exact kd_po hq2) (by first | decide | (unfold N0; omega)) (Nat.le_of_ble_eq_true rfl) (Nat.le_of_ble_eq_true rfl) rfl (by first | rfl | exact r_key4 hi | exact r_sh0 hi | exact r_p0 hq | exact r_p1 hq | exact r_p2 hq | exact r_p3 hq | exact r_p0 hq2 | exact r_p1 hq2 | exact r_p2 hq2 | exact r_p3 hq2) fl_X7_11 eX7_priceOf_23 ?_
        refine g_ild3 eX7_priceOf_26 ?_
        refine g_iald (by first | rfl | exact kd_key hi | exact kd_sh hi | exact kd_ya hi | exact kd_pr hq | exact kd_pk hq | exact kd_pf hq | exact kd_ps hq | exact kd_po hq | exact kd_pr hq2 | exact kd_pk hq2 | exact kd_pf hq2 | exact kd_ps hq2 | exact kd_po hq2) (by first | decide | (unfold N0; omega)) (by rw [ln_pk hq]; exact vp_in_nI (by omega) (by decide)) eX7_priceOf_27 ?_
        rw [nI_clamp (by omega)]
        refine g_prld (vin (by omega) (by omega)) eX7_priceOf_28 ?_
        have hpr := prc_F (x := st.1 (96 + 5 * q) k) ⟨w1, w2⟩
        have hpr2 := prF_rng ((st.1 (96 + 5 * q) k).toInt)
        refine g_iadd eX7_priceOf_29 ?_
        refine g_ist2 rfl (Nat.le_of_ble_eq_true rfl) eX7_priceOf_30 ?_
        refine g_inc3 rfl (Nat.le_of_ble_eq_true rfl) rfl eX7_priceOf_31 ?_
        refine g_goto eX7_priceOf_34 ?_
        rw [inc1]
        refine ih (k + 1) _ (by omega) ?_
        unfold costF at ha ⊢
        rw [fb_si_succ]
        have e : gK st q k = (st.1 (96 + 5 * q) k).toInt := rfl
        rw [e]
        rw [fb_addI] <;> rw [ha, hpr] <;> omega
  refine g_bipush (v := 25) (by decide) eX7_priceOf_0 ?_
  refine g_ild1 eX7_priceOf_2 ?_
  refine g_callSi (m_bitCount _ (nI x)) cs_X7_54 eX7_priceOf_3 ⟨Nat.le_of_ble_eq_true rfl, Nat.le_of_ble_eq_true rfl⟩ rfl rfl (Nat.le_of_ble_eq_true rfl) (fun r st h => ?_)
  obtain ⟨rfl, rfl⟩ := h
  rw [bc_pop hx]
  refine g_imul eX7_priceOf_6 ?_
  refine g_ist2 rfl (Nat.le_of_ble_eq_true rfl) eX7_priceOf_7 ?_
  refine g_iconst (v := 0) (by decide) eX7_priceOf_8 ?_
  refine g_ist3 rfl (Nat.le_of_ble_eq_true rfl) eX7_priceOf_9 ?_
  refine loop ((st.1 (95 + 5 * q) 5).toInt).toNat 0 _ (by omega) ?_
  have e25 : (25 : Int32).toInt = 25 := rfl
  have ep : (nI (popN x)).toInt = popN x := nI_toInt (by omega)
  unfold costF
  rw [fb_mulI] <;> rw [e25, ep] <;> (try simp [fb_si]) <;> omega
/-- what the class' programs keep to -/
def pOK (st : St) (np : Nat) : Prop := st.1 0 10 = nI np ∧ np ≤ 4 ∧ tOK (st.1 0 0) ∧ st.1 24 0 = st.1 0 0 ∧ ∀ q, q < np → pgOK (st.1 0 0).toInt st q
abbrev qI (x : Int32) : Nat := x.toInt.toNat
theorem m_hasOut (st : St) {np : Nat} (hp : pOK st np) (x k : Int32) : Mi l D cy 1 YX11_hasOut [.ref 0, .int x, .int k] st (fun r u => u = st ∧ r = b2 (isS np x ∧ 0 ≤ k.toInt ∧ k.toInt < (st.1 (95 + 5 * (qI x)) 6).toInt)) := by
  obtain ⟨h1, h2, h3, h4, h5⟩ := hp
  have hcn : (st.1 0 10).toInt = np := by rw [h1, nI_toInt (by omega)]
  refine M.ofG [some (.ref 0), some (.int x), some (.int k)] (by decide) (Nat.le_of_ble_eq_true rfl) rfl ?_
  intro xp xe xs xm xa xb xme xc xad xA
  refine g_ald0 eX11_hasOut_0 ?_
  refine g_ild1 eX11_hasOut_1 ?_
  refine g_callVi (ci := 10) (m_isProgram _ x) (by first | rfl | exact kd_key hi | exact kd_sh hi | exact kd_ya hi | exact kd_pr hq | exact kd_pk hq | exact kd_pf hq | exact kd_ps hq | exact kd_po hq | exact kd_pr hq2 | exact kd_pk hq2 | exact kd_pf hq2 | exact kd_ps hq2 | exact kd_po hq2) (by first | decide | (unfold N0; omega)) (Nat.le_of_ble_eq_true rfl) rfl cv_X11_206 eX11_hasOut_2 ⟨Nat.le_of_ble_eq_true rfl, Nat.le_of_ble_eq_true rfl⟩ rfl rfl (Nat.le_of_ble_eq_true rfl) (fun r st h => ?_)
  obtain ⟨rfl, rfl⟩ := h
  refine g_if_eq eX11_hasOut_5 (fun hb => ?_) (fun hb => ?_)
  · rw [b2_eq0, hcn] at hb
    refine g_iconst (v := 0) (by decide) eX11_hasOut_29 ?_
    exact g_zret (ty := .boolean) rfl (by first | rfl | assumption) eX11_hasOut_30 ⟨_, rfl, ⟨rfl, b2_f (fun h => hb h.1)⟩⟩
  · rw [b2_ne0, hcn] at hb
    obtain ⟨q, hq9, rfl⟩ := as_nI hb
    have hq : q < 4 := by omega
    have e : qI (nI q) = q := nI_clamp (by omega)
    rw [e]
    refine g_ild2 eX11_hasOut_8 ?_
    refine g_if_lt eX11_hasOut_9 (fun hb2 => ?_) (fun hb2 => ?_)
    · simp only [fa_lt, Int32.reduceToInt] at hb2
      refine g_iconst (v := 0) (by decide) eX11_hasOut_29 ?_
      exact g_zret (ty := .boolean) rfl (by first | rfl | assumption) eX11_hasOut_30 ⟨_, rfl, ⟨rfl, b2_f (fun h => by omega)⟩⟩
    · simp only [fa_lt, Int32.reduceToInt] at hb2
      refine g_ild2 eX11_hasOut_12 ?_
      refine g_ald0 eX11_hasOut_13 ?_
      refine g_getR (ci := 10) (j := 9) (by first | rfl | exact kd_key hi | exact kd_sh hi | exact kd_ya hi | exact kd_pr hq | exact kd_pk hq | exact kd_pf hq | exact kd_ps hq | exact kd_po hq | exact kd_pr hq2 | exact kd_pk hq2 | exact kd_pf hq2 | exact kd_ps hq2 | exact kd_po hq2) (by first | decide | (unfold N0; omega)) (Nat.le_of_ble_eq_true rfl) (Nat.le_of_ble_eq_true rfl) rfl (by first | rfl | exact r_key4 hi | exact r_sh0 hi | exact r_p0 hq | exact r_p1 hq | exact r_p2 hq | exact r_p3 hq | exact r_p0 hq2 | exact r_p1 hq2 | exact r_p2 hq2 | exact r_p3 hq2) fl_X11_45 eX11_hasOut_14 ?_
      refine g_ild1 eX11_hasOut_17 ?_
      refine g_aald (by decide) (Nat.le_of_ble_eq_true rfl) (progIx hq).1 (progIx hq).2 eX11_hasOut_18 ?_
      refine g_getI (ci := 6) (j := 6) (by first | rfl | exact kd_key hi | exact kd_sh hi | exact kd_ya hi | exact kd_pr hq | exact kd_pk hq | exact kd_pf hq | exact kd_ps hq | exact kd_po hq | exact kd_pr hq2 | exact kd_pk hq2 | exact kd_pf hq2 | exact kd_ps hq2 | exact kd_po hq2) (by first | decide | (unfold N0; omega)) (Nat.le_of_ble_eq_true rfl) (Nat.le_of_ble_eq_true rfl) rfl fl_X11_251 eX11_hasOut_19 ?_
      refine g_icmp_ge eX11_hasOut_22 (fun hb3 => ?_) (fun hb3 => ?_)
      · simp only [fa_le] at hb3
        refine g_iconst (v := 0) (by decide) eX11_hasOut_29 ?_
        exact g_zret (ty := .boolean) rfl (by first | rfl | assumption) eX11_hasOut_30 ⟨_, rfl, ⟨rfl, b2_f (fun h => by omega)⟩⟩
      · simp only [fa_le] at hb3
        refine g_iconst (v := 1) (by decide) eX11_hasOut_25 ?_
        refine g_goto eX11_hasOut_26 ?_
        exact g_zret (ty := .boolean) rfl (by first | rfl | assumption) eX11_hasOut_30 ⟨_, rfl, ⟨rfl, b2_t ⟨hb, by omega, by omega⟩⟩⟩
theorem m_hasLaying (st : St) {np : Nat} (hp : pOK st np) (x k : Int32) : Mi l D cy 2 YX11_hasLaying [.ref 0, .int x, .int k] st (fun r u => u = st ∧ r = b2 (isS np x ∧ 0 ≤ k.toInt ∧ k.toInt < layN ((st.1 (95 + 5 * (qI x)) 5).toInt))) := by
  obtain ⟨h1, h2, h3, h4, h5⟩ := hp
  have hcn : (st.1 0 10).toInt = np := by rw [h1, nI_toInt (by omega)]
  refine M.ofG [some (.ref 0), some (.int x), some (.int k)] (by decide) (Nat.le_of_ble_eq_true rfl) rfl ?_
  intro xp xe xs xm xa xb xme xc xad xA
  refine g_ald0 eX11_hasLaying_0 ?_
  refine g_ild1 eX11_hasLaying_1 ?_
  refine g_callVi (ci := 10) (m_isProgram _ x) (by first | rfl | exact kd_key hi | exact kd_sh hi | exact kd_ya hi | exact kd_pr hq | exact kd_pk hq | exact kd_pf hq | exact kd_ps hq | exact kd_po hq | exact kd_pr hq2 | exact kd_pk hq2 | exact kd_pf hq2 | exact kd_ps hq2 | exact kd_po hq2) (by first | decide | (unfold N0; omega)) (Nat.le_of_ble_eq_true rfl) rfl cv_X11_206 eX11_hasLaying_2 ⟨Nat.le_of_ble_eq_true rfl, Nat.le_of_ble_eq_true rfl⟩ rfl rfl (Nat.le_of_ble_eq_true rfl) (fun r st h => ?_)
  obtain ⟨rfl, rfl⟩ := h
  refine g_if_eq eX11_hasLaying_5 (fun hb => ?_) (fun hb => ?_)
  · rw [b2_eq0, hcn] at hb
    refine g_iconst (v := 0) (by decide) eX11_hasLaying_25 ?_
    exact g_zret (ty := .boolean) rfl (by first | rfl | assumption) eX11_hasLaying_26 ⟨_, rfl, ⟨rfl, b2_f (fun h => hb h.1)⟩⟩
  · rw [b2_ne0, hcn] at hb
    obtain ⟨q, hq9, rfl⟩ := as_nI hb
    have hq : q < 4 := by omega
    have e : qI (nI q) = q := nI_clamp (by omega)
    rw [e]
    refine g_ald0 eX11_hasLaying_8 ?_
    refine g_getR (ci := 10) (j := 9) (by first | rfl | exact kd_key hi | exact kd_sh hi | exact kd_ya hi | exact kd_pr hq | exact kd_pk hq | exact kd_pf hq | exact kd_ps hq | exact kd_po hq | exact kd_pr hq2 | exact kd_pk hq2 | exact kd_pf hq2 | exact kd_ps hq2 | exact kd_po hq2) (by first | decide | (unfold N0; omega)) (Nat.le_of_ble_eq_true rfl) (Nat.le_of_ble_eq_true rfl) rfl (by first | rfl | exact r_key4 hi | exact r_sh0 hi | exact r_p0 hq | exact r_p1 hq | exact r_p2 hq | exact r_p3 hq | exact r_p0 hq2 | exact r_p1 hq2 | exact r_p2 hq2 | exact r_p3 hq2) fl_X11_45 eX11_hasLaying_9 ?_
    refine g_ild1 eX11_hasLaying_12 ?_
    refine g_aald (by decide) (Nat.le_of_ble_eq_true rfl) (progIx hq).1 (progIx hq).2 eX11_hasLaying_13 ?_
    refine g_ild2 eX11_hasLaying_14 ?_
    refine g_callVi (ci := 6) (m_canLay _ hq ⟨(h5 q hq9).1, (h5 q hq9).2.1⟩ k) (by first | rfl | exact kd_key hi | exact kd_sh hi | exact kd_ya hi | exact kd_pr hq | exact kd_pk hq | exact kd_pf hq | exact kd_ps hq | exact kd_po hq | exact kd_pr hq2 | exact kd_pk hq2 | exact kd_pf hq2 | exact kd_ps hq2 | exact kd_po hq2) (by first | decide | (unfold N0; omega)) (Nat.le_of_ble_eq_true rfl) rfl cv_X11_380 eX11_hasLaying_15 ⟨Nat.le_of_ble_eq_true rfl, Nat.le_of_ble_eq_true rfl⟩ rfl rfl (Nat.le_of_ble_eq_true rfl) (fun r st h => ?_)
    obtain ⟨rfl, rfl⟩ := h
    refine g_if_eq eX11_hasLaying_18 (fun hb2 => ?_) (fun hb2 => ?_)
    · rw [b2_eq0] at hb2
      refine g_iconst (v := 0) (by decide) eX11_hasLaying_25 ?_
      exact g_zret (ty := .boolean) rfl (by first | rfl | assumption) eX11_hasLaying_26 ⟨_, rfl, ⟨rfl, b2_f (fun h => hb2 h.2)⟩⟩
    · rw [b2_ne0] at hb2
      refine g_iconst (v := 1) (by decide) eX11_hasLaying_21 ?_
      refine g_goto eX11_hasLaying_22 ?_
      exact g_zret (ty := .boolean) rfl (by first | rfl | assumption) eX11_hasLaying_26 ⟨_, rfl, ⟨rfl, b2_t ⟨hb, hb2⟩⟩⟩
theorem m_works (st : St) {np : Nat} (hp : pOK st np) (x : Int32) : Mi l D cy 1 YX11_works [.ref 0, .int x] st (fun r u => u = st ∧ r = if isS np x then st.1 (95 + 5 * qI x) 5 else -1) := by
  obtain ⟨h1, h2, h3, h4, h5⟩ := hp
  have hcn : (st.1 0 10).toInt = np := by rw [h1, nI_toInt (by omega)]
  refine M.ofG [some (.ref 0), some (.int x)] (by decide) (Nat.le_of_ble_eq_true rfl) rfl ?_
  intro xp xe xs xm xa xb xme xc xad xA
  refine g_ald0 eX11_works_0 ?_
  refine g_ild1 eX11_works_1 ?_
  refine g_callVi (ci := 10) (m_isProgram _ x) (by first | rfl | exact kd_key hi | exact kd_sh hi | exact kd_ya hi | exact kd_pr hq | exact kd_pk hq | exact kd_pf hq | exact kd_ps hq | exact kd_po hq | exact kd_pr hq2 | exact kd_pk hq2 | exact kd_pf hq2 | exact kd_ps hq2 | exact kd_po hq2) (by first | decide | (unfold N0; omega)) (Nat.le_of_ble_eq_true rfl) rfl cv_X11_206 eX11_works_2 ⟨Nat.le_of_ble_eq_true rfl, Nat.le_of_ble_eq_true rfl⟩ rfl rfl (Nat.le_of_ble_eq_true rfl) (fun r st h => ?_)
  obtain ⟨rfl, rfl⟩ := h
  refine g_if_eq eX11_works_5 (fun hb => ?_) (fun hb => ?_)
  · rw [b2_eq0, hcn] at hb
    refine g_iconst (v := (-1)) (by decide) eX11_works_20 ?_
    exact g_iret rfl eX11_works_21 ⟨_, rfl, ⟨rfl, by rw [if_neg hb]⟩⟩
  · rw [b2_ne0, hcn] at hb
    rw [if_pos hb]
    obtain ⟨q, hq9, rfl⟩ := as_nI hb
    have hq : q < 4 := by omega
    have e : qI (nI q) = q := nI_clamp (by omega)
    rw [e]
    refine g_ald0 eX11_works_8 ?_
    refine g_getR (ci := 10) (j := 9) (by first | rfl | exact kd_key hi | exact kd_sh hi | exact kd_ya hi | exact kd_pr hq | exact kd_pk hq | exact kd_pf hq | exact kd_ps hq | exact kd_po hq | exact kd_pr hq2 | exact kd_pk hq2 | exact kd_pf hq2 | exact kd_ps hq2 | exact kd_po hq2) (by first | decide | (unfold N0; omega)) (Nat.le_of_ble_eq_true rfl) (Nat.le_of_ble_eq_true rfl) rfl (by first | rfl | exact r_key4 hi | exact r_sh0 hi | exact r_p0 hq | exact r_p1 hq | exact r_p2 hq | exact r_p3 hq | exact r_p0 hq2 | exact r_p1 hq2 | exact r_p2 hq2 | exact r_p3 hq2) fl_X11_45 eX11_works_9 ?_
    refine g_ild1 eX11_works_12 ?_
    refine g_aald (by decide) (Nat.le_of_ble_eq_true rfl) (progIx hq).1 (progIx hq).2 eX11_works_13 ?_
    refine g_getI (ci := 6) (j := 5) (by first | rfl | exact kd_key hi | exact kd_sh hi | exact kd_ya hi | exact kd_pr hq | exact kd_pk hq | exact kd_pf hq | exact kd_ps hq | exact kd_po hq | exact kd_pr hq2 | exact kd_pk hq2 | exact kd_pf hq2 | exact kd_ps hq2 | exact kd_po hq2) (by first | decide | (unfold N0; omega)) (Nat.le_of_ble_eq_true rfl) (Nat.le_of_ble_eq_true rfl) rfl fl_X11_209 eX11_works_14 ?_
    refine g_goto eX11_works_17 ?_
    exact g_iret rfl eX11_works_21 ⟨_, rfl, ⟨rfl, rfl⟩⟩
/-- what step tells -/
def stepF (st : St) (np : Nat) (x k w : Int32) : Int := if isS np x ∧ 0 ≤ k.toInt ∧ k.toInt < (st.1 (95 + 5 * (qI x)) 5).toInt then (if w.toInt = 0 then (st.1 (96 + 5 * (qI x)) (qI k)).toInt else if w.toInt = 1 then toldF ((st.1 (97 + 5 * (qI x)) (qI k)).toInt) else if w.toInt = 2 then (if (st.1 (96 + 5 * (qI x)) (qI k)).toInt = 4 ∨ (st.1 (96 + 5 * (qI x)) (qI k)).toInt = 5 then (st.1 (98 + 5 * (qI x)) (qI k)).toInt else toldF ((st.1 (98 + 5 * (qI x)) (qI k)).toInt)) else -100) else -100
theorem pg_codes {t : Int} {st : St} {q : Nat} (ht : t ≤ 13) (h : pgOK t st q) {w : Nat} (hw : (w : Int) < (st.1 (95 + 5 * q) 5).toInt) : (-100 ≤ (st.1 (97 + 5 * q) w).toInt ∧ (st.1 (97 + 5 * q) w).toInt ≤ 100) ∧ (-100 ≤ (st.1 (98 + 5 * q) w).toInt ∧ (st.1 (98 + 5 * q) w).toInt ≤ 100) := by
  obtain ⟨k1, k2, k3, k4, k5, k6⟩ := h.2.2.2.2.2.2.1 w hw
  have h1 := h.2.1
  have h2 := h.2.2.2.1
  refine ⟨by rcases k3 with k | k <;> omega, ?_⟩
  have h9 : (st.1 (96 + 5 * q) w).toInt ≤ 3 ∨ (st.1 (96 + 5 * q) w).toInt = 4 ∨ (st.1 (96 + 5 * q) w).toInt = 5 := by omega
  rcases h9 with h9 | h9 | h9
  · rcases k4 h9 with k | k <;> omega
  · have := k5 h9; omega
  · have := k6 h9; omega
set_option maxHeartbeats 4000000 in
theorem m_step (st : St) {np : Nat} (hp : pOK st np) (x k w : Int32) : Mi l D cy 3 YX11_step [.ref 0, .int x, .int k, .int w] st (fun r u => u = st ∧ r.toInt = stepF st np x k w) := by
  obtain ⟨h1, h2, h3, h4, h5⟩ := hp
  have hcn : (st.1 0 10).toInt = np := by rw [h1, nI_toInt (by omega)]
  refine M.ofG [some (.ref 0), some (.int x), some (.int k), some (.int w)] (by decide) (Nat.le_of_ble_eq_true rfl) rfl ?_
  intro xp xe xs xm xa xb xme xc xad xA
  refine g_ald0 eX11_step_0 ?_
  refine g_ild1 eX11_step_1 ?_
  refine g_callVi (ci := 10) (m_isProgram _ x) (by first | rfl | exact kd_key hi | exact kd_sh hi | exact kd_ya hi | exact kd_pr hq | exact kd_pk hq | exact kd_pf hq | exact kd_ps hq | exact kd_po hq | exact kd_pr hq2 | exact kd_pk hq2 | exact kd_pf hq2 | exact kd_ps hq2 | exact kd_po hq2) (by first | decide | (unfold N0; omega)) (Nat.le_of_ble_eq_true rfl) rfl cv_X11_206 eX11_step_2 ⟨Nat.le_of_ble_eq_true rfl, Nat.le_of_ble_eq_true rfl⟩ rfl rfl (Nat.le_of_ble_eq_true rfl) (fun r st h => ?_)
  obtain ⟨rfl, rfl⟩ := h
  refine g_if_eq eX11_step_5 (fun hb => ?_) (fun hb => ?_)
  · rw [b2_eq0, hcn] at hb
    refine g_bipush (v := (-100)) (by decide) eX11_step_25 ?_
    refine g_iret rfl eX11_step_27 ⟨_, rfl, ?_⟩
    try dsimp only
    unfold stepF
    rw [if_neg (fun h => hb h.1)]
    exact ⟨rfl, rfl⟩
  · rw [b2_ne0, hcn] at hb
    refine g_ild2 eX11_step_8 ?_
    refine g_if_lt eX11_step_9 (fun hb2 => ?_) (fun hb2 => ?_)
    · simp only [fa_lt, Int32.reduceToInt] at hb2
      refine g_bipush (v := (-100)) (by decide) eX11_step_25 ?_
      refine g_iret rfl eX11_step_27 ⟨_, rfl, ?_⟩
      try dsimp only
      unfold stepF
      rw [if_neg (fun h => by omega)]
      exact ⟨rfl, rfl⟩
    · simp only [fa_lt, Int32.reduceToInt] at hb2
      obtain ⟨q, hq9, rfl⟩ := as_nI hb
      have hq : q < 4 := by omega
      have e : qI (nI q) = q := nI_clamp (by omega)
      have hw40 := (h5 q hq9).2.1
      refine g_ild2 eX11_step_12 ?_
      refine g_ald0 eX11_step_13 ?_
      refine g_getR (ci := 10) (j := 9) (by first | rfl | exact kd_key hi | exact kd_sh hi | exact kd_ya hi | exact kd_pr hq | exact kd_pk hq | exact kd_pf hq | exact kd_ps hq | exact kd_po hq | exact kd_pr hq2 | exact kd_pk hq2 | exact kd_pf hq2 | exact kd_ps hq2 | exact kd_po hq2) (by first | decide | (unfold N0; omega)) (Nat.le_of_ble_eq_true rfl) (Nat.le_of_ble_eq_true rfl) rfl (by first | rfl | exact r_key4 hi | exact r_sh0 hi | exact r_p0 hq | exact r_p1 hq | exact r_p2 hq | exact r_p3 hq | exact r_p0 hq2 | exact r_p1 hq2 | exact r_p2 hq2 | exact r_p3 hq2) fl_X11_45 eX11_step_14 ?_
      refine g_ild1 eX11_step_17 ?_
      refine g_aald (by decide) (Nat.le_of_ble_eq_true rfl) (progIx hq).1 (progIx hq).2 eX11_step_18 ?_
      refine g_getI (ci := 6) (j := 5) (by first | rfl | exact kd_key hi | exact kd_sh hi | exact kd_ya hi | exact kd_pr hq | exact kd_pk hq | exact kd_pf hq | exact kd_ps hq | exact kd_po hq | exact kd_pr hq2 | exact kd_pk hq2 | exact kd_pf hq2 | exact kd_ps hq2 | exact kd_po hq2) (by first | decide | (unfold N0; omega)) (Nat.le_of_ble_eq_true rfl) (Nat.le_of_ble_eq_true rfl) rfl fl_X11_209 eX11_step_19 ?_
      refine g_icmp_lt eX11_step_22 (fun hb3 => ?_) (fun hb3 => ?_)
      · simp only [fa_lt] at hb3
        obtain ⟨v, hv9, rfl⟩ := as_nI (x := k) (n := 40) (by omega)
        have ev : qI (nI v) = v := nI_clamp (by omega)
        have evt : (nI v).toInt = v := nI_toInt (by omega)
        have hcod := pg_codes h3.2 (h5 q hq9) (w := v) (by omega)
        have hC : isS np (nI q) ∧ 0 ≤ (nI v).toInt ∧ (nI v).toInt < (st.1 (95 + 5 * qI (nI q)) 5).toInt := ⟨hb, by omega, by rw [e]; exact hb3⟩
        refine g_ild3 eX11_step_28 ?_
        have hx : (w.toInt < 0 ∨ 2 < w.toInt) ∨ w.toInt = 0 ∨ w.toInt = 1 ∨ w.toInt = 2 := by omega
        rcases hx with hx | hx | hx | hx
        · refine g_tableOut (tgt := 94) eX11_step_29 (hx) (by decide) ?_
          refine g_bipush (v := (-100)) (by decide) eX11_step_94 ?_
          refine g_iret rfl eX11_step_96 ⟨_, rfl, ?_⟩
          try dsimp only
          unfold stepF
          rw [if_pos hC, if_neg (by omega), if_neg (by omega), if_neg (by omega)]
          exact ⟨rfl, rfl⟩
        · refine g_tableIn (off := 27) (tgt := 56) eX11_step_29 (by omega) (by omega) (by rw [hx]; rfl) (by decide) ?_
          refine g_ald0 eX11_step_56 ?_
          refine g_getR (ci := 10) (j := 9) (by first | rfl | exact kd_key hi | exact kd_sh hi | exact kd_ya hi | exact kd_pr hq | exact kd_pk hq | exact kd_pf hq | exact kd_ps hq | exact kd_po hq | exact kd_pr hq2 | exact kd_pk hq2 | exact kd_pf hq2 | exact kd_ps hq2 | exact kd_po hq2) (by first | decide | (unfold N0; omega)) (Nat.le_of_ble_eq_true rfl) (Nat.le_of_ble_eq_true rfl) rfl (by first | rfl | exact r_key4 hi | exact r_sh0 hi | exact r_p0 hq | exact r_p1 hq | exact r_p2 hq | exact r_p3 hq | exact r_p0 hq2 | exact r_p1 hq2 | exact r_p2 hq2 | exact r_p3 hq2) fl_X11_45 eX11_step_57 ?_
          refine g_ild1 eX11_step_60 ?_
          refine g_aald (by decide) (Nat.le_of_ble_eq_true rfl) (progIx hq).1 (progIx hq).2 eX11_step_61 ?_
          refine g_getR (ci := 6) (j := 0) (by first | rfl | exact kd_key hi | exact kd_sh hi | exact kd_ya hi | exact kd_pr hq | exact kd_pk hq | exact kd_pf hq | exact kd_ps hq | exact kd_po hq | exact kd_pr hq2 | exact kd_pk hq2 | exact kd_pf hq2 | exact kd_ps hq2 | exact kd_po hq2) (by first | decide | (unfold N0; omega)) (Nat.le_of_ble_eq_true rfl) (Nat.le_of_ble_eq_true rfl) rfl (by first | rfl | exact r_key4 hi | exact r_sh0 hi | exact r_p0 hq | exact r_p1 hq | exact r_p2 hq | exact r_p3 hq | exact r_p0 hq2 | exact r_p1 hq2 | exact r_p2 hq2 | exact r_p3 hq2) fl_X11_212 eX11_step_62 ?_
          refine g_ild2 eX11_step_65 ?_
          refine g_iald (by first | rfl | exact kd_key hi | exact kd_sh hi | exact kd_ya hi | exact kd_pr hq | exact kd_pk hq | exact kd_pf hq | exact kd_ps hq | exact kd_po hq | exact kd_pr hq2 | exact kd_pk hq2 | exact kd_pf hq2 | exact kd_ps hq2 | exact kd_po hq2) (by first | decide | (unfold N0; omega)) (by rw [ln_pk hq]; exact vp_in_nI (by omega) (by decide)) eX11_step_66 ?_
          refine g_iret rfl eX11_step_67 ⟨_, rfl, ?_⟩
          try dsimp only
          unfold stepF
          rw [if_pos hC, if_pos hx, e, ev, nI_clamp (by omega)]
          exact ⟨rfl, rfl⟩
        · refine g_tableIn (off := 39) (tgt := 68) eX11_step_29 (by omega) (by omega) (by rw [hx]; rfl) (by decide) ?_
          refine g_ald0 eX11_step_68 ?_
          refine g_getR (ci := 10) (j := 9) (by first | rfl | exact kd_key hi | exact kd_sh hi | exact kd_ya hi | exact kd_pr hq | exact kd_pk hq | exact kd_pf hq | exact kd_ps hq | exact kd_po hq | exact kd_pr hq2 | exact kd_pk hq2 | exact kd_pf hq2 | exact kd_ps hq2 | exact kd_po hq2) (by first | decide | (unfold N0; omega)) (Nat.le_of_ble_eq_true rfl) (Nat.le_of_ble_eq_true rfl) rfl (by first | rfl | exact r_key4 hi | exact r_sh0 hi | exact r_p0 hq | exact r_p1 hq | exact r_p2 hq | exact r_p3 hq | exact r_p0 hq2 | exact r_p1 hq2 | exact r_p2 hq2 | exact r_p3 hq2) fl_X11_45 eX11_step_69 ?_
          refine g_ild1 eX11_step_72 ?_
          refine g_aald (by decide) (Nat.le_of_ble_eq_true rfl) (progIx hq).1 (progIx hq).2 eX11_step_73 ?_
          refine g_getR (ci := 6) (j := 1) (by first | rfl | exact kd_key hi | exact kd_sh hi | exact kd_ya hi | exact kd_pr hq | exact kd_pk hq | exact kd_pf hq | exact kd_ps hq | exact kd_po hq | exact kd_pr hq2 | exact kd_pk hq2 | exact kd_pf hq2 | exact kd_ps hq2 | exact kd_po hq2) (by first | decide | (unfold N0; omega)) (Nat.le_of_ble_eq_true rfl) (Nat.le_of_ble_eq_true rfl) rfl (by first | rfl | exact r_key4 hi | exact r_sh0 hi | exact r_p0 hq | exact r_p1 hq | exact r_p2 hq | exact r_p3 hq | exact r_p0 hq2 | exact r_p1 hq2 | exact r_p2 hq2 | exact r_p3 hq2) fl_X11_213 eX11_step_74 ?_
          refine g_ild2 eX11_step_77 ?_
          refine g_iald (by first | rfl | exact kd_key hi | exact kd_sh hi | exact kd_ya hi | exact kd_pr hq | exact kd_pk hq | exact kd_pf hq | exact kd_ps hq | exact kd_po hq | exact kd_pr hq2 | exact kd_pk hq2 | exact kd_pf hq2 | exact kd_ps hq2 | exact kd_po hq2) (by first | decide | (unfold N0; omega)) (by rw [ln_pf hq]; exact vp_in_nI (by omega) (by decide)) eX11_step_78 ?_
          rw [nI_clamp (by omega)]
          refine g_callSi (m_toldCode _ _ hcod.1) cs_X11_216 eX11_step_79 ⟨Nat.le_of_ble_eq_true rfl, Nat.le_of_ble_eq_true rfl⟩ rfl rfl (Nat.le_of_ble_eq_true rfl) (fun r st h => ?_)
          obtain ⟨rfl, h⟩ := h
          refine g_iret rfl eX11_step_82 ⟨_, rfl, ?_⟩
          try dsimp only
          unfold stepF
          rw [if_pos hC, if_neg (by omega), if_pos hx, e, ev]
          exact ⟨rfl, h⟩
        · refine g_tableIn (off := 54) (tgt := 83) eX11_step_29 (by omega) (by omega) (by rw [hx]; rfl) (by decide) ?_
          refine g_ald0 eX11_step_83 ?_
          refine g_getR (ci := 10) (j := 9) (by first | rfl | exact kd_key hi | exact kd_sh hi | exact kd_ya hi | exact kd_pr hq | exact kd_pk hq | exact kd_pf hq | exact kd_ps hq | exact kd_po hq | exact kd_pr hq2 | exact kd_pk hq2 | exact kd_pf hq2 | exact kd_ps hq2 | exact kd_po hq2) (by first | decide | (unfold N0; omega)) (Nat.le_of_ble_eq_true rfl) (Nat.le_of_ble_eq_true rfl) rfl (by first | rfl | exact r_key4 hi | exact r_sh0 hi | exact r_p0 hq | exact r_p1 hq | exact r_p2 hq | exact r_p3 hq | exact r_p0 hq2 | exact r_p1 hq2 | exact r_p2 hq2 | exact r_p3 hq2) fl_X11_45 eX11_step_84 ?_
          refine g_ild1 eX11_step_87 ?_
          refine g_aald (by decide) (Nat.le_of_ble_eq_true rfl) (progIx hq).1 (progIx hq).2 eX11_step_88 ?_
          refine g_ild2 eX11_step_89 ?_
          refine g_callVi (ci := 6) (m_toldSecond _ hq v (by omega) hcod.2) (by first | rfl | exact kd_key hi | exact kd_sh hi | exact kd_ya hi | exact kd_pr hq | exact kd_pk hq | exact kd_pf hq | exact kd_ps hq | exact kd_po hq | exact kd_pr hq2 | exact kd_pk hq2 | exact kd_pf hq2 | exact kd_ps hq2 | exact kd_po hq2) (by first | decide | (unfold N0; omega)) (Nat.le_of_ble_eq_true rfl) rfl cv_X11_219 eX11_step_90 ⟨Nat.le_of_ble_eq_true rfl, Nat.le_of_ble_eq_true rfl⟩ rfl rfl (Nat.le_of_ble_eq_true rfl) (fun r st h => ?_)
          obtain ⟨rfl, h⟩ := h
          refine g_iret rfl eX11_step_93 ⟨_, rfl, ?_⟩
          try dsimp only
          unfold stepF
          rw [if_pos hC, if_neg (by omega), if_neg (by omega), if_pos hx, e, ev]
          exact ⟨rfl, h⟩
      · simp only [fa_lt] at hb3
        refine g_bipush (v := (-100)) (by decide) eX11_step_25 ?_
        refine g_iret rfl eX11_step_27 ⟨_, rfl, ?_⟩
        try dsimp only
        unfold stepF
        rw [if_neg (fun h => by have h9 := h.2.2; rw [e] at h9; omega)]
        exact ⟨rfl, rfl⟩
theorem m_outs (st : St) {np : Nat} (hp : pOK st np) (x k : Int32) : Mi l D cy 2 YX11_outs [.ref 0, .int x, .int k] st (fun r u => u = st ∧ r.toInt = if isS np x ∧ 0 ≤ k.toInt ∧ k.toInt < (st.1 (95 + 5 * (qI x)) 6).toInt then toldF ((st.1 (99 + 5 * (qI x)) (qI k)).toInt) else -100) := by
  have hp0 := hp
  obtain ⟨h1, h2, h3, h4, h5⟩ := hp
  refine M.ofG [some (.ref 0), some (.int x), some (.int k)] (by decide) (Nat.le_of_ble_eq_true rfl) rfl ?_
  intro xp xe xs xm xa xb xme xc xad xA
  refine g_ald0 eX11_outs_0 ?_
  refine g_ild1 eX11_outs_1 ?_
  refine g_ild2 eX11_outs_2 ?_
  refine g_callVi (ci := 10) (m_hasOut _ hp0 x k) (by first | rfl | exact kd_key hi | exact kd_sh hi | exact kd_ya hi | exact kd_pr hq | exact kd_pk hq | exact kd_pf hq | exact kd_ps hq | exact kd_po hq | exact kd_pr hq2 | exact kd_pk hq2 | exact kd_pf hq2 | exact kd_ps hq2 | exact kd_po hq2) (by first | decide | (unfold N0; omega)) (Nat.le_of_ble_eq_true rfl) rfl cv_X11_222 eX11_outs_3 ⟨Nat.le_of_ble_eq_true rfl, Nat.le_of_ble_eq_true rfl⟩ rfl rfl (Nat.le_of_ble_eq_true rfl) (fun r st h => ?_)
  obtain ⟨rfl, rfl⟩ := h
  refine g_if_eq eX11_outs_6 (fun hb => ?_) (fun hb => ?_)
  · rw [b2_eq0] at hb
    refine g_bipush (v := (-100)) (by decide) eX11_outs_26 ?_
    exact g_iret rfl eX11_outs_28 ⟨_, rfl, ⟨rfl, by rw [if_neg hb]; rfl⟩⟩
  · rw [b2_ne0] at hb
    rw [if_pos hb]
    obtain ⟨q, hq9, rfl⟩ := as_nI hb.1
    have hq : q < 4 := by omega
    have e : qI (nI q) = q := nI_clamp (by omega)
    rw [e] at hb ⊢
    have hg := h5 q hq9
    obtain ⟨v, hv9, rfl⟩ := as_nI (x := k) (n := 4) (by have := hg.2.2.2.2.2.1; omega)
    have evt : (nI v).toInt = v := nI_toInt (by omega)
    have ev : qI (nI v) = v := nI_clamp (by omega)
    rw [ev]
    have hcod : -100 ≤ (st.1 (99 + 5 * q) v).toInt ∧ (st.1 (99 + 5 * q) v).toInt ≤ 100 := by
      have a1 := hg.2.1
      have a2 := hg.2.2.2.1
      have a3 := h3.2
      rcases hg.2.2.2.2.2.2.2 v (by omega) with (h9 | h9) | h9 <;> omega
    refine g_ald0 eX11_outs_9 ?_
    refine g_getR (ci := 10) (j := 9) (by first | rfl | exact kd_key hi | exact kd_sh hi | exact kd_ya hi | exact kd_pr hq | exact kd_pk hq | exact kd_pf hq | exact kd_ps hq | exact kd_po hq | exact kd_pr hq2 | exact kd_pk hq2 | exact kd_pf hq2 | exact kd_ps hq2 | exact kd_po hq2) (by first | decide | (unfold N0; omega)) (Nat.le_of_ble_eq_true rfl) (Nat.le_of_ble_eq_true rfl) rfl (by first | rfl | exact r_key4 hi | exact r_sh0 hi | exact r_p0 hq | exact r_p1 hq | exact r_p2 hq | exact r_p3 hq | exact r_p0 hq2 | exact r_p1 hq2 | exact r_p2 hq2 | exact r_p3 hq2) fl_X11_45 eX11_outs_10 ?_
    refine g_ild1 eX11_outs_13 ?_
    refine g_aald (by decide) (Nat.le_of_ble_eq_true rfl) (progIx hq).1 (progIx hq).2 eX11_outs_14 ?_
    refine g_getR (ci := 6) (j := 3) (by first | rfl | exact kd_key hi | exact kd_sh hi | exact kd_ya hi | exact kd_pr hq | exact kd_pk hq | exact kd_pf hq | exact kd_ps hq | exact kd_po hq | exact kd_pr hq2 | exact kd_pk hq2 | exact kd_pf hq2 | exact kd_ps hq2 | exact kd_po hq2) (by first | decide | (unfold N0; omega)) (Nat.le_of_ble_eq_true rfl) (Nat.le_of_ble_eq_true rfl) rfl (by first | rfl | exact r_key4 hi | exact r_sh0 hi | exact r_p0 hq | exact r_p1 hq | exact r_p2 hq | exact r_p3 hq | exact r_p0 hq2 | exact r_p1 hq2 | exact r_p2 hq2 | exact r_p3 hq2) fl_X11_225 eX11_outs_15 ?_
    refine g_ild2 eX11_outs_18 ?_
    refine g_iald (by first | rfl | exact kd_key hi | exact kd_sh hi | exact kd_ya hi | exact kd_pr hq | exact kd_pk hq | exact kd_pf hq | exact kd_ps hq | exact kd_po hq | exact kd_pr hq2 | exact kd_pk hq2 | exact kd_pf hq2 | exact kd_ps hq2 | exact kd_po hq2) (by first | decide | (unfold N0; omega)) (by rw [ln_po hq]; exact vp_in_nI (by omega) (by decide)) eX11_outs_19 ?_
    rw [nI_clamp (by omega)]
    refine g_callSi (m_toldCode _ _ hcod) cs_X11_216 eX11_outs_20 ⟨Nat.le_of_ble_eq_true rfl, Nat.le_of_ble_eq_true rfl⟩ rfl rfl (Nat.le_of_ble_eq_true rfl) (fun r st h => ?_)
    obtain ⟨rfl, h⟩ := h
    refine g_goto eX11_outs_23 ?_
    exact g_iret rfl eX11_outs_28 ⟨_, rfl, ⟨rfl, h⟩⟩
theorem m_cost (st : St) {np : Nat} (hp : pOK st np) (x k : Int32) : Mi l D cy 3 YX11_cost [.ref 0, .int x, .int k] st (fun r u => u = st ∧ r.toInt = if isS np x ∧ 0 ≤ k.toInt ∧ k.toInt < layN ((st.1 (95 + 5 * (qI x)) 5).toInt) then costF (gK st (qI x)) ((st.1 (95 + 5 * (qI x)) 5).toInt).toNat (qI k) else -1) := by
  have hp0 := hp
  obtain ⟨h1, h2, h3, h4, h5⟩ := hp
  refine M.ofG [some (.ref 0), some (.int x), some (.int k)] (by decide) (Nat.le_of_ble_eq_true rfl) rfl ?_
  intro xp xe xs xm xa xb xme xc xad xA
  refine g_ald0 eX11_cost_0 ?_
  refine g_ild1 eX11_cost_1 ?_
  refine g_ild2 eX11_cost_2 ?_
  refine g_callVi (ci := 10) (m_hasLaying _ hp0 x k) (by first | rfl | exact kd_key hi | exact kd_sh hi | exact kd_ya hi | exact kd_pr hq | exact kd_pk hq | exact kd_pf hq | exact kd_ps hq | exact kd_po hq | exact kd_pr hq2 | exact kd_pk hq2 | exact kd_pf hq2 | exact kd_ps hq2 | exact kd_po hq2) (by first | decide | (unfold N0; omega)) (Nat.le_of_ble_eq_true rfl) rfl cv_X11_228 eX11_cost_3 ⟨Nat.le_of_ble_eq_true rfl, Nat.le_of_ble_eq_true rfl⟩ rfl rfl (Nat.le_of_ble_eq_true rfl) (fun r st h => ?_)
  obtain ⟨rfl, rfl⟩ := h
  refine g_if_eq eX11_cost_6 (fun hb => ?_) (fun hb => ?_)
  · rw [b2_eq0] at hb
    refine g_iconst (v := (-1)) (by decide) eX11_cost_22 ?_
    exact g_iret rfl eX11_cost_23 ⟨_, rfl, ⟨rfl, by rw [if_neg hb]; rfl⟩⟩
  · rw [b2_ne0] at hb
    rw [if_pos hb]
    obtain ⟨q, hq9, rfl⟩ := as_nI hb.1
    have hq : q < 4 := by omega
    have e : qI (nI q) = q := nI_clamp (by omega)
    rw [e] at hb ⊢
    have hl := layN_le ((st.1 (95 + 5 * q) 5).toInt)
    obtain ⟨v, hv9, rfl⟩ := as_nI (x := k) (n := 4096) (by omega)
    have ev : qI (nI v) = v := nI_clamp (by omega)
    rw [ev]
    refine g_ald0 eX11_cost_9 ?_
    refine g_getR (ci := 10) (j := 9) (by first | rfl | exact kd_key hi | exact kd_sh hi | exact kd_ya hi | exact kd_pr hq | exact kd_pk hq | exact kd_pf hq | exact kd_ps hq | exact kd_po hq | exact kd_pr hq2 | exact kd_pk hq2 | exact kd_pf hq2 | exact kd_ps hq2 | exact kd_po hq2) (by first | decide | (unfold N0; omega)) (Nat.le_of_ble_eq_true rfl) (Nat.le_of_ble_eq_true rfl) rfl (by first | rfl | exact r_key4 hi | exact r_sh0 hi | exact r_p0 hq | exact r_p1 hq | exact r_p2 hq | exact r_p3 hq | exact r_p0 hq2 | exact r_p1 hq2 | exact r_p2 hq2 | exact r_p3 hq2) fl_X11_45 eX11_cost_10 ?_
    refine g_ild1 eX11_cost_13 ?_
    refine g_aald (by decide) (Nat.le_of_ble_eq_true rfl) (progIx hq).1 (progIx hq).2 eX11_cost_14 ?_
    refine g_ild2 eX11_cost_15 ?_
    refine g_callVi (ci := 6) (m_priceOf _ hq (h5 q hq9) v hv9) (by first | rfl | exact kd_key hi | exact kd_sh hi | exact kd_ya hi | exact kd_pr hq | exact kd_pk hq | exact kd_pf hq | exact kd_ps hq | exact kd_po hq | exact kd_pr hq2 | exact kd_pk hq2 | exact kd_pf hq2 | exact kd_ps hq2 | exact kd_po hq2) (by first | decide | (unfold N0; omega)) (Nat.le_of_ble_eq_true rfl) rfl cv_X11_231 eX11_cost_16 ⟨Nat.le_of_ble_eq_true rfl, Nat.le_of_ble_eq_true rfl⟩ rfl rfl (Nat.le_of_ble_eq_true rfl) (fun r st h => ?_)
    obtain ⟨rfl, h⟩ := h
    refine g_goto eX11_cost_19 ?_
    exact g_iret rfl eX11_cost_23 ⟨_, rfl, ⟨rfl, h⟩⟩
theorem m_given (st : St) {nk n : Nat} (hx : xOK st nk n) (a b : Int32) : Mi l D cy 1 YX11_given [.ref 0, .int a, .int b] st (fun r u => if (0 ≤ a.toInt ∧ a.toInt < 6) ∧ isS n b then r = 1 ∧ u = sI st 23 (qI a) b else r = 0 ∧ u = st) := by
  obtain ⟨h1, h2, h3, h4, h5, h6, h7, h8⟩ := hx
  have hcn : (st.1 17 4).toInt = n := by rw [h3, nI_toInt (by omega)]
  refine M.ofG [some (.ref 0), some (.int a), some (.int b)] (by decide) (Nat.le_of_ble_eq_true rfl) rfl ?_
  intro xp xe xs xm xa xb xme xc xad xA
  refine g_ild1 eX11_given_0 ?_
  refine g_if_lt eX11_given_1 (fun hb => ?_) (fun hb => ?_)
  · simp only [fa_lt, Int32.reduceToInt] at hb
    refine g_iconst (v := 0) (by decide) eX11_given_18 ?_
    refine g_zret (ty := .boolean) rfl (by first | rfl | assumption) eX11_given_19 ⟨_, rfl, ?_⟩
    try dsimp only
    rw [if_neg (fun h => by omega)]
    exact ⟨rfl, rfl⟩
  · simp only [fa_lt, Int32.reduceToInt] at hb
    refine g_ild1 eX11_given_4 ?_
    refine g_bipush (v := 6) (by decide) eX11_given_5 ?_
    refine g_icmp_ge eX11_given_7 (fun hb2 => ?_) (fun hb2 => ?_)
    · simp only [fa_le, Int32.reduceToInt] at hb2
      refine g_iconst (v := 0) (by decide) eX11_given_18 ?_
      refine g_zret (ty := .boolean) rfl (by first | rfl | assumption) eX11_given_19 ⟨_, rfl, ?_⟩
      try dsimp only
      rw [if_neg (fun h => by omega)]
      exact ⟨rfl, rfl⟩
    · simp only [fa_le, Int32.reduceToInt] at hb2
      refine g_ald0 eX11_given_10 ?_
      refine g_ild2 eX11_given_11 ?_
      refine g_callVi (ci := 10) (m_isSealed _ b) rfl (Nat.le_of_ble_eq_true rfl) (Nat.le_of_ble_eq_true rfl) rfl cv_X11_151 eX11_given_12 ⟨Nat.le_of_ble_eq_true rfl, Nat.le_of_ble_eq_true rfl⟩ rfl rfl (Nat.le_of_ble_eq_true rfl) (fun r st h => ?_)
      obtain ⟨rfl, rfl⟩ := h
      refine g_if_ne eX11_given_15 (fun hb3 => ?_) (fun hb3 => ?_)
      · rw [b2_ne0, hcn] at hb3
        refine g_ald0 eX11_given_20 ?_
        refine g_getR (ci := 10) (j := 11) rfl (Nat.le_of_ble_eq_true rfl) (Nat.le_of_ble_eq_true rfl) (Nat.le_of_ble_eq_true rfl) rfl rfl fl_X11_52 eX11_given_21 ?_
        refine g_ild1 eX11_given_24 ?_
        refine g_ild2 eX11_given_25 ?_
        refine g_iast rfl (Nat.le_of_ble_eq_true rfl) (vin (n := 6) (by omega) (by omega)) eX11_given_26 ?_
        refine g_iconst (v := 1) (by decide) eX11_given_27 ?_
        refine g_zret (ty := .boolean) rfl (by first | rfl | assumption) eX11_given_28 ⟨_, rfl, ?_⟩
        try dsimp only
        rw [if_pos ⟨by omega, hb3⟩]
        exact ⟨rfl, rfl⟩
      · rw [b2_eq0, hcn] at hb3
        refine g_iconst (v := 0) (by decide) eX11_given_18 ?_
        refine g_zret (ty := .boolean) rfl (by first | rfl | assumption) eX11_given_19 ⟨_, rfl, ?_⟩
        try dsimp only
        rw [if_neg (fun h => hb3 h.2)]
        exact ⟨rfl, rfl⟩
end CLSD
